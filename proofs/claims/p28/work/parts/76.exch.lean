/-! the law: an exchange told -/
section YBC
variable {sd : Option (List Int32)} {scl : List Int32} {μ pc : Nat} {lv : xL} {st : List Value} {h : xH} {ks : Nat} {Φ : xO → Prop}
variable {n D J : Nat} {P : Int32} {cl jc : Nat → Int32} {b c fn sh K : Nat} {M A N : Nat → Nat → List Nat}
theorem px_cpA {x a q : Nat} {l : List Int32} {vs rest : List Value} (hi : (xmc μ)[pc]? = some (some (.invokestatic x))) (hm : xmath (xmo μ) μ x (.int (Int32.ofNat l.length) :: .int (Int32.ofNat 0) :: .ref q :: .int (Int32.ofNat 0) :: .ref a :: rest) = none) (hv : xinv (xmo μ) μ x (.int (Int32.ofNat l.length) :: .int (Int32.ofNat 0) :: .ref q :: .int (Int32.ofNat 0) :: .ref a :: rest) = none) (hk : ∃ r, xfnd (xcalT (xmo μ)) x = some (10, r)) (ha : xget h a = some (100, ivs l)) (hq : xget h q = some (100, vs)) (hl : vs.length = l.length) (hs : l.length < 1000) (hr : (rest.map fun v => v.category).sum + 18 ≤ xmlo μ ∧ 1 ≤ xmf μ) (kk : Px sd sd μ (pc + 3) lv rest (xset h q (100, ivs l)) ks Φ) : Px sd sd μ pc lv (.int (Int32.ofNat l.length) :: .int (Int32.ofNat 0) :: .ref q :: .int (Int32.ofNat 0) :: .ref a :: rest) h ks Φ := by
  have hlen : (ivs l).length = l.length := by simp
  refine px_cpy hi hm hv ?_ kk
  obtain ⟨r, hf⟩ := hk
  unfold xcpy
  rw [hf]
  dsimp only
  rw [ha, hq]
  dsimp only
  have e1 : (Int32.ofNat l.length).toNatClampNeg = l.length := by
    show (Int32.ofNat l.length).toInt.toNat = _
    rw [i32_to (by omega)]
    omega
  rw [e1, if_pos ⟨rfl, rfl, rfl, rfl, by rw [Int32.lt_iff_toInt_lt, i32_to (by omega)]; show ¬ ((l.length : Int) < 0); omega, by rw [hlen]; exact Nat.le_refl _, by rw [hl]; exact Nat.le_refl _, ivs_all l, hr.1, hr.2⟩]
  rw [List.take_of_length_le (by rw [hlen]; exact Nat.le_refl _), List.drop_of_length_le (by rw [hl]; exact Nat.le_refl _), List.append_nil]
  rfl
theorem upM_two {j d : Nat} (L : List Nat) : upM (upM M j d L) j d (M j d) = M := by
  funext a e
  unfold upM
  by_cases h1 : a = j ∧ e = d
  · rw [if_pos h1, h1.1, h1.2]
  · rw [if_neg h1, if_neg h1]
set_option maxHeartbeats 2000000 in
set_option maxRecDepth 20000 in
theorem lz_r3 {j d cp on ot HB SB : Nat} {vt vk vw vf : Int32} {x6 : Int64} (hn1 : 1 ≤ n) (hn : n ≤ 7) (hD : D ≤ 5) (hM : okM n M) (hj : j < 7) (hd : d < D) (hP : hds P (Int32.ofNat j)) (hS : okS n (M j d)) (hcp : cp < n) (hon : on < n) (hot : ot < n) (hZ : Zs n D J P cl jc b c fn sh K M M M h) (hh : h.length + 1 ≤ HB) (hk : ks + 7 ≤ SB) (kk : ∀ (h' : xH) (ks' : Nat), Zs n D J P cl jc b c fn sh K M M M h' → h'.length ≤ HB → ks' ≤ SB → Px (some scl) (some scl) 111 527 [(0, .ref 0), (1, .int vt), (2, .ref b), (3, .ref c), (4, .ref (b + 1)), (5, .int (Int32.ofNat n)), (6, .long x6), (8, .int vk), (9, .int (Int32.ofNat j)), (10, .int (Int32.ofNat d)), (11, .int (Int32.ofNat cp)), (12, .int (Int32.ofNat on)), (13, .int (Int32.ofNat ot)), (14, .int vw), (15, .int vf)] [] h' ks' Φ) : Px (some scl) (some scl) 111 411 [(0, .ref 0), (1, .int vt), (2, .ref b), (3, .ref c), (4, .ref (b + 1)), (5, .int (Int32.ofNat n)), (6, .long x6), (8, .int vk), (9, .int (Int32.ofNat j)), (10, .int (Int32.ofNat d)), (11, .int (Int32.ofNat cp)), (12, .int (Int32.ofNat on)), (13, .int (Int32.ofNat ot)), (14, .int vw), (15, .int vf), (16, .int (vx n D (mM M) j d cp on ot))] [] h ks Φ := by
  have hd5 : d < 5 := by omega
  have hSl := hS.1
  have hZa : ∀ {g : xH}, Zs n D J P cl jc b c fn sh K M M M (h ++ g) := fun {g} => hZ.app
  refine px_run 1 (pc' := 413) (lv' := [(0, .ref 0), (1, .int vt), (2, .ref b), (3, .ref c), (4, .ref (b + 1)), (5, .int (Int32.ofNat n)), (6, .long x6), (8, .int vk), (9, .int (Int32.ofNat j)), (10, .int (Int32.ofNat d)), (11, .int (Int32.ofNat cp)), (12, .int (Int32.ofNat on)), (13, .int (Int32.ofNat ot)), (14, .int vw), (15, .int vf), (16, .int (vx n D (mM M) j d cp on ot))]) (st' := [.int (Int32.ofNat n)]) rfl ?_
  refine px_nai rfl (by omega) ?_
  refine px_run 2 (pc' := 418) (lv' := [(19, .ref (h.length + 4)), (0, .ref 0), (1, .int vt), (2, .ref b), (3, .ref c), (4, .ref (b + 1)), (5, .int (Int32.ofNat n)), (6, .long x6), (8, .int vk), (9, .int (Int32.ofNat j)), (10, .int (Int32.ofNat d)), (11, .int (Int32.ofNat cp)), (12, .int (Int32.ofNat on)), (13, .int (Int32.ofNat ot)), (14, .int vw), (15, .int vf), (16, .int (vx n D (mM M) j d cp on ot))]) (st' := [.ref b]) rfl ?_
  refine px_gt rfl rfl hZa (fun _ _ _ _ _ => rfl) ?_
  refine px_run 1 (pc' := 423) (lv' := [(19, .ref (h.length + 4)), (0, .ref 0), (1, .int vt), (2, .ref b), (3, .ref c), (4, .ref (b + 1)), (5, .int (Int32.ofNat n)), (6, .long x6), (8, .int vk), (9, .int (Int32.ofNat j)), (10, .int (Int32.ofNat d)), (11, .int (Int32.ofNat cp)), (12, .int (Int32.ofNat on)), (13, .int (Int32.ofNat ot)), (14, .int vw), (15, .int vf), (16, .int (vx n D (mM M) j d cp on ot))]) (st' := [.int (Int32.ofNat j), .ref sh]) rfl ?_
  refine px_row rfl hj hZa ?_
  refine px_run 1 (pc' := 426) (lv' := [(19, .ref (h.length + 4)), (0, .ref 0), (1, .int vt), (2, .ref b), (3, .ref c), (4, .ref (b + 1)), (5, .int (Int32.ofNat n)), (6, .long x6), (8, .int vk), (9, .int (Int32.ofNat j)), (10, .int (Int32.ofNat d)), (11, .int (Int32.ofNat cp)), (12, .int (Int32.ofNat on)), (13, .int (Int32.ofNat ot)), (14, .int vw), (15, .int vf), (16, .int (vx n D (mM M) j d cp on ot))]) (st' := [.int (Int32.ofNat d), .ref (sh + 1 + j * 6)]) rfl ?_
  refine px_mks rfl hj hd5 hZa (fun q1 hq1 gq1 => ?_)
  refine px_run 4 (pc' := 433) (lv' := [(19, .ref (h.length + 4)), (0, .ref 0), (1, .int vt), (2, .ref b), (3, .ref c), (4, .ref (b + 1)), (5, .int (Int32.ofNat n)), (6, .long x6), (8, .int vk), (9, .int (Int32.ofNat j)), (10, .int (Int32.ofNat d)), (11, .int (Int32.ofNat cp)), (12, .int (Int32.ofNat on)), (13, .int (Int32.ofNat ot)), (14, .int vw), (15, .int vf), (16, .int (vx n D (mM M) j d cp on ot))]) (st' := [.int (Int32.ofNat n), .int (Int32.ofNat 0), .ref (h.length + 4), .int (Int32.ofNat 0), .ref q1]) rfl ?_
  have el : Int32.ofNat n = Int32.ofNat (mks (M j d)).length := by rw [List.length_map, hSl]
  rw [show (Value.int (Int32.ofNat n) :: Value.int (Int32.ofNat 0) :: Value.ref (h.length + 4) :: Value.int (Int32.ofNat 0) :: Value.ref q1 :: ([] : List Value)) = Value.int (Int32.ofNat (mks (M j d)).length) :: Value.int (Int32.ofNat 0) :: Value.ref (h.length + 4) :: Value.int (Int32.ofNat 0) :: Value.ref q1 :: [] by rw [← el]]
  refine px_cpA rfl rfl rfl ⟨_, rfl⟩ gq1 (xglast _ _) (by rw [List.length_replicate, List.length_map, hSl]) (by rw [List.length_map, hSl]; omega) ⟨by decide, by decide⟩ ?_
  rw [xlast]
  refine px_run 3 (pc' := 441) (lv' := [(19, .ref (h.length + 4)), (0, .ref 0), (1, .int vt), (2, .ref b), (3, .ref c), (4, .ref (b + 1)), (5, .int (Int32.ofNat n)), (6, .long x6), (8, .int vk), (9, .int (Int32.ofNat j)), (10, .int (Int32.ofNat d)), (11, .int (Int32.ofNat cp)), (12, .int (Int32.ofNat on)), (13, .int (Int32.ofNat ot)), (14, .int vw), (15, .int vf), (16, .int (vx n D (mM M) j d cp on ot))]) (st' := [.ref b, .int (Int32.ofNat on), .ref (h.length + 4)]) rfl ?_
  refine px_gt rfl rfl hZa (fun _ _ _ _ _ => rfl) ?_
  refine px_run 1 (pc' := 446) (lv' := [(19, .ref (h.length + 4)), (0, .ref 0), (1, .int vt), (2, .ref b), (3, .ref c), (4, .ref (b + 1)), (5, .int (Int32.ofNat n)), (6, .long x6), (8, .int vk), (9, .int (Int32.ofNat j)), (10, .int (Int32.ofNat d)), (11, .int (Int32.ofNat cp)), (12, .int (Int32.ofNat on)), (13, .int (Int32.ofNat ot)), (14, .int vw), (15, .int vf), (16, .int (vx n D (mM M) j d cp on ot))]) (st' := [.int (Int32.ofNat j), .ref sh, .int (Int32.ofNat on), .ref (h.length + 4)]) rfl ?_
  refine px_row rfl hj hZa ?_
  refine px_run 1 (pc' := 449) (lv' := [(19, .ref (h.length + 4)), (0, .ref 0), (1, .int vt), (2, .ref b), (3, .ref c), (4, .ref (b + 1)), (5, .int (Int32.ofNat n)), (6, .long x6), (8, .int vk), (9, .int (Int32.ofNat j)), (10, .int (Int32.ofNat d)), (11, .int (Int32.ofNat cp)), (12, .int (Int32.ofNat on)), (13, .int (Int32.ofNat ot)), (14, .int vw), (15, .int vf), (16, .int (vx n D (mM M) j d cp on ot))]) (st' := [.int (Int32.ofNat d), .ref (sh + 1 + j * 6), .int (Int32.ofNat on), .ref (h.length + 4)]) rfl ?_
  refine px_mks rfl hj hd5 hZa (fun q2 hq2 gq2 => ?_)
  refine px_run 1 (pc' := 452) (lv' := [(19, .ref (h.length + 4)), (0, .ref 0), (1, .int vt), (2, .ref b), (3, .ref c), (4, .ref (b + 1)), (5, .int (Int32.ofNat n)), (6, .long x6), (8, .int vk), (9, .int (Int32.ofNat j)), (10, .int (Int32.ofNat d)), (11, .int (Int32.ofNat cp)), (12, .int (Int32.ofNat on)), (13, .int (Int32.ofNat ot)), (14, .int vw), (15, .int vf), (16, .int (vx n D (mM M) j d cp on ot))]) (st' := [.int (Int32.ofNat ot), .ref q2, .int (Int32.ofNat on), .ref (h.length + 4)]) rfl ?_
  refine px_ial rfl gq2 (by rw [mks_len]; omega) (mks_at (by omega)) ?_
  refine px_ias rfl (xglast _ _) (by rw [mks_len]; omega) (by rw [mks_len]; omega) ?_
  rw [xlast, mks_set]
  refine px_run 3 (pc' := 459) (lv' := [(19, .ref (h.length + 4)), (0, .ref 0), (1, .int vt), (2, .ref b), (3, .ref c), (4, .ref (b + 1)), (5, .int (Int32.ofNat n)), (6, .long x6), (8, .int vk), (9, .int (Int32.ofNat j)), (10, .int (Int32.ofNat d)), (11, .int (Int32.ofNat cp)), (12, .int (Int32.ofNat on)), (13, .int (Int32.ofNat ot)), (14, .int vw), (15, .int vf), (16, .int (vx n D (mM M) j d cp on ot))]) (st' := [.ref b, .int (Int32.ofNat ot), .ref (h.length + 4)]) rfl ?_
  refine px_gt rfl rfl hZa (fun _ _ _ _ _ => rfl) ?_
  refine px_run 1 (pc' := 464) (lv' := [(19, .ref (h.length + 4)), (0, .ref 0), (1, .int vt), (2, .ref b), (3, .ref c), (4, .ref (b + 1)), (5, .int (Int32.ofNat n)), (6, .long x6), (8, .int vk), (9, .int (Int32.ofNat j)), (10, .int (Int32.ofNat d)), (11, .int (Int32.ofNat cp)), (12, .int (Int32.ofNat on)), (13, .int (Int32.ofNat ot)), (14, .int vw), (15, .int vf), (16, .int (vx n D (mM M) j d cp on ot))]) (st' := [.int (Int32.ofNat j), .ref sh, .int (Int32.ofNat ot), .ref (h.length + 4)]) rfl ?_
  refine px_row rfl hj hZa ?_
  refine px_run 1 (pc' := 467) (lv' := [(19, .ref (h.length + 4)), (0, .ref 0), (1, .int vt), (2, .ref b), (3, .ref c), (4, .ref (b + 1)), (5, .int (Int32.ofNat n)), (6, .long x6), (8, .int vk), (9, .int (Int32.ofNat j)), (10, .int (Int32.ofNat d)), (11, .int (Int32.ofNat cp)), (12, .int (Int32.ofNat on)), (13, .int (Int32.ofNat ot)), (14, .int vw), (15, .int vf), (16, .int (vx n D (mM M) j d cp on ot))]) (st' := [.int (Int32.ofNat d), .ref (sh + 1 + j * 6), .int (Int32.ofNat ot), .ref (h.length + 4)]) rfl ?_
  refine px_mks rfl hj hd5 hZa (fun q3 hq3 gq3 => ?_)
  refine px_run 1 (pc' := 470) (lv' := [(19, .ref (h.length + 4)), (0, .ref 0), (1, .int vt), (2, .ref b), (3, .ref c), (4, .ref (b + 1)), (5, .int (Int32.ofNat n)), (6, .long x6), (8, .int vk), (9, .int (Int32.ofNat j)), (10, .int (Int32.ofNat d)), (11, .int (Int32.ofNat cp)), (12, .int (Int32.ofNat on)), (13, .int (Int32.ofNat ot)), (14, .int vw), (15, .int vf), (16, .int (vx n D (mM M) j d cp on ot))]) (st' := [.int (Int32.ofNat on), .ref q3, .int (Int32.ofNat ot), .ref (h.length + 4)]) rfl ?_
  refine px_ial rfl gq3 (by rw [mks_len]; omega) (mks_at (by omega)) ?_
  refine px_ias rfl (xglast _ _) (by rw [mks_len, List.length_set]; omega) (by rw [mks_len, List.length_set]; omega) ?_
  rw [xlast, mks_set]
  have hW := okS_sw hS hon hot
  rw [show ((M j d).set on ((M j d).getD ot 0)).set ot ((M j d).getD on 0) = swL (M j d) on ot from rfl]
  refine px_run 1 (pc' := 473) (lv' := [(19, .ref (h.length + 4)), (0, .ref 0), (1, .int vt), (2, .ref b), (3, .ref c), (4, .ref (b + 1)), (5, .int (Int32.ofNat n)), (6, .long x6), (8, .int vk), (9, .int (Int32.ofNat j)), (10, .int (Int32.ofNat d)), (11, .int (Int32.ofNat cp)), (12, .int (Int32.ofNat on)), (13, .int (Int32.ofNat ot)), (14, .int vw), (15, .int vf), (16, .int (vx n D (mM M) j d cp on ot))]) (st' := [.ref c]) rfl ?_
  refine px_go rfl rfl hZa ?_
  refine px_run 3 (pc' := 482) (lv' := [(19, .ref (h.length + 4)), (0, .ref 0), (1, .int vt), (2, .ref b), (3, .ref c), (4, .ref (b + 1)), (5, .int (Int32.ofNat n)), (6, .long x6), (8, .int vk), (9, .int (Int32.ofNat j)), (10, .int (Int32.ofNat d)), (11, .int (Int32.ofNat cp)), (12, .int (Int32.ofNat on)), (13, .int (Int32.ofNat ot)), (14, .int vw), (15, .int vf), (16, .int (vx n D (mM M) j d cp on ot))]) (st' := [.ref (h.length + 4), .int (Int32.ofNat d), .int (Int32.ofNat j), .ref (c + 1)]) rfl ?_
  refine px_st (as := [.ref (c + 1), .int (Int32.ofNat j), .int (Int32.ofNat d), .ref (h.length + 4)]) (rest := []) rfl rfl rfl rfl rfl (cz_same hn1 hn hD hj hd hP hM hW (xglast _ _) hZa (fun h1 hZ1 l1 => ?_))
  show Px (some scl) (some scl) 111 485 _ [.int 1] h1 (ks + n) Φ
  rw [List.length_append, List.length_singleton] at l1
  refine px_run 2 (pc' := 487) (lv' := [(19, .ref (h.length + 4)), (0, .ref 0), (1, .int vt), (2, .ref b), (3, .ref c), (4, .ref (b + 1)), (5, .int (Int32.ofNat n)), (6, .long x6), (8, .int vk), (9, .int (Int32.ofNat j)), (10, .int (Int32.ofNat d)), (11, .int (Int32.ofNat cp)), (12, .int (Int32.ofNat on)), (13, .int (Int32.ofNat ot)), (14, .int vw), (15, .int vf), (16, .int (vx n D (mM M) j d cp on ot))]) (st' := [.ref c]) rfl ?_
  refine px_go rfl rfl hZ1 ?_
  refine px_run 2 (pc' := 493) (lv' := [(19, .ref (h.length + 4)), (0, .ref 0), (1, .int vt), (2, .ref b), (3, .ref c), (4, .ref (b + 1)), (5, .int (Int32.ofNat n)), (6, .long x6), (8, .int vk), (9, .int (Int32.ofNat j)), (10, .int (Int32.ofNat d)), (11, .int (Int32.ofNat cp)), (12, .int (Int32.ofNat on)), (13, .int (Int32.ofNat ot)), (14, .int vw), (15, .int vf), (16, .int (vx n D (mM M) j d cp on ot))]) (st' := [.int (Int32.ofNat 0), .int (Int32.ofNat cp), .ref (c + 1)]) rfl ?_
  refine pz_o (N' := upM M j d (swL (M j d) on ot)) (Q := fun v => v = EPf n D (ef 0 (mM (upM M j d (swL (M j d) on ot)))) cp) rfl rfl rfl rfl rfl rfl hZ1 (fun s Ψ hF k => c_res0 hn hF hcp (k _ s rfl hF)) (fun v h2 hv hZ2 l2 => ?_)
  rw [mM_sw hn hj hd5 hSl hon hot] at hv
  have hv2 : v = vx n D (mM M) j d cp on ot := hv
  subst hv2
  refine px_run 1 (pc' := 498) (lv' := [(19, .ref (h.length + 4)), (0, .ref 0), (1, .int vt), (2, .ref b), (3, .ref c), (4, .ref (b + 1)), (5, .int (Int32.ofNat n)), (6, .long x6), (8, .int vk), (9, .int (Int32.ofNat j)), (10, .int (Int32.ofNat d)), (11, .int (Int32.ofNat cp)), (12, .int (Int32.ofNat on)), (13, .int (Int32.ofNat ot)), (14, .int vw), (15, .int vf), (16, .int (vx n D (mM M) j d cp on ot))]) (st' := [.int (vx n D (mM M) j d cp on ot), .int (vx n D (mM M) j d cp on ot)]) rfl ?_
  refine px_icmp rfl rfl (fun hx => ?_) (fun hx => ?_)
  · rw [show xcmp .ne (vx n D (mM M) j d cp on ot) (vx n D (mM M) j d cp on ot) = false by simp [xcmp]] at hx
    cases hx
  refine px_run 1 (pc' := 502) (lv' := [(19, .ref (h.length + 4)), (0, .ref 0), (1, .int vt), (2, .ref b), (3, .ref c), (4, .ref (b + 1)), (5, .int (Int32.ofNat n)), (6, .long x6), (8, .int vk), (9, .int (Int32.ofNat j)), (10, .int (Int32.ofNat d)), (11, .int (Int32.ofNat cp)), (12, .int (Int32.ofNat on)), (13, .int (Int32.ofNat ot)), (14, .int vw), (15, .int vf), (16, .int (vx n D (mM M) j d cp on ot))]) (st' := [.ref c]) rfl ?_
  refine px_go rfl rfl hZ2 ?_
  refine px_run 3 (pc' := 510) (lv' := [(19, .ref (h.length + 4)), (0, .ref 0), (1, .int vt), (2, .ref b), (3, .ref c), (4, .ref (b + 1)), (5, .int (Int32.ofNat n)), (6, .long x6), (8, .int vk), (9, .int (Int32.ofNat j)), (10, .int (Int32.ofNat d)), (11, .int (Int32.ofNat cp)), (12, .int (Int32.ofNat on)), (13, .int (Int32.ofNat ot)), (14, .int vw), (15, .int vf), (16, .int (vx n D (mM M) j d cp on ot))]) (st' := [.ref b, .int (Int32.ofNat d), .int (Int32.ofNat j), .ref (c + 1)]) rfl ?_
  refine px_gt rfl rfl hZ2 (fun _ _ _ _ _ => rfl) ?_
  refine px_run 1 (pc' := 515) (lv' := [(19, .ref (h.length + 4)), (0, .ref 0), (1, .int vt), (2, .ref b), (3, .ref c), (4, .ref (b + 1)), (5, .int (Int32.ofNat n)), (6, .long x6), (8, .int vk), (9, .int (Int32.ofNat j)), (10, .int (Int32.ofNat d)), (11, .int (Int32.ofNat cp)), (12, .int (Int32.ofNat on)), (13, .int (Int32.ofNat ot)), (14, .int vw), (15, .int vf), (16, .int (vx n D (mM M) j d cp on ot))]) (st' := [.int (Int32.ofNat j), .ref sh, .int (Int32.ofNat d), .int (Int32.ofNat j), .ref (c + 1)]) rfl ?_
  refine px_row rfl hj hZ2 ?_
  refine px_run 1 (pc' := 518) (lv' := [(19, .ref (h.length + 4)), (0, .ref 0), (1, .int vt), (2, .ref b), (3, .ref c), (4, .ref (b + 1)), (5, .int (Int32.ofNat n)), (6, .long x6), (8, .int vk), (9, .int (Int32.ofNat j)), (10, .int (Int32.ofNat d)), (11, .int (Int32.ofNat cp)), (12, .int (Int32.ofNat on)), (13, .int (Int32.ofNat ot)), (14, .int vw), (15, .int vf), (16, .int (vx n D (mM M) j d cp on ot))]) (st' := [.int (Int32.ofNat d), .ref (sh + 1 + j * 6), .int (Int32.ofNat d), .int (Int32.ofNat j), .ref (c + 1)]) rfl ?_
  refine px_mks rfl hj hd5 hZ2 (fun q4 hq4 gq4 => ?_)
  refine px_st (as := [.ref (c + 1), .int (Int32.ofNat j), .int (Int32.ofNat d), .ref q4]) (rest := []) rfl rfl rfl rfl rfl (cz_same hn1 hn hD hj hd hP (okM_up hM (Or.inr hW)) hS gq4 hZ2 (fun h3 hZ3 l3 => ?_))
  show Px (some scl) (some scl) 111 522 _ [.int 1] h3 (ks + n) Φ
  rw [upM_two] at hZ3
  refine px_if rfl rfl (fun hb => ?_) (fun hb => by cases hb)
  refine px_sel [0, 1, 2, 3, 4, 5, 6, 8, 9, 10, 11, 12, 13, 14, 15] rfl ?_
  exact kk h3 (ks + n) hZ3 (by omega) (by omega)
set_option maxHeartbeats 2000000 in
set_option maxRecDepth 20000 in
theorem lz_r2 {j d cp on ot HB SB : Nat} {vt vk vw vf : Int32} {x6 : Int64} (hn1 : 1 ≤ n) (hn : n ≤ 7) (hD : D ≤ 5) (hM : okM n M) (hj : j < 7) (hd : d < D) (hP : hds P (Int32.ofNat j)) (hS : okS n (M j d)) (hcp : cp < n) (hon : on < n) (hot : ot < n) (hZ : Zs n D J P cl jc b c fn sh K M M M h) (hh : h.length + 1 ≤ HB) (hk : ks + 7 ≤ SB) (kk : ∀ (h' : xH) (ks' : Nat), Zs n D J P cl jc b c fn sh K M M M h' → h'.length ≤ HB → ks' ≤ SB → Px (some scl) (some scl) 111 527 [(0, .ref 0), (1, .int vt), (2, .ref b), (3, .ref c), (4, .ref (b + 1)), (5, .int (Int32.ofNat n)), (6, .long x6), (8, .int vk), (9, .int (Int32.ofNat j)), (10, .int (Int32.ofNat d)), (11, .int (Int32.ofNat cp)), (12, .int (Int32.ofNat on)), (13, .int (Int32.ofNat ot)), (14, .int vw), (15, .int vf)] [] h' ks' Φ) : Px (some scl) (some scl) 111 300 [(0, .ref 0), (1, .int vt), (2, .ref b), (3, .ref c), (4, .ref (b + 1)), (5, .int (Int32.ofNat n)), (6, .long x6), (8, .int vk), (9, .int (Int32.ofNat j)), (10, .int (Int32.ofNat d)), (11, .int (Int32.ofNat cp)), (12, .int (Int32.ofNat on)), (13, .int (Int32.ofNat ot)), (14, .int vw), (15, .int vf)] [] h ks Φ := by
  have hd5 : d < 5 := by omega
  have hSl := hS.1
  have hne : M j d ≠ [] := fun z => by rw [z] at hSl; simp at hSl; omega
  have hh0 := okM_ne hn1 hn hM hj hd5 hne
  refine px_run 6 (pc' := 312) (lv' := [(0, .ref 0), (1, .int vt), (2, .ref b), (3, .ref c), (4, .ref (b + 1)), (5, .int (Int32.ofNat n)), (6, .long x6), (8, .int vk), (9, .int (Int32.ofNat j)), (10, .int (Int32.ofNat d)), (11, .int (Int32.ofNat cp)), (12, .int (Int32.ofNat on)), (13, .int (Int32.ofNat ot)), (14, .int vw), (15, .int vf)]) (st' := [.int (Int32.ofNat cp), .int (Int32.ofNat ot), .int (Int32.ofNat on), .int (Int32.ofNat d), .int (Int32.ofNat j), .ref (b + 1)]) rfl ?_
  refine pz_t (v := vx n D (mM M) j d cp on ot) rfl rfl rfl rfl rfl rfl hZ (fun s Ψ hF k => c_exdd hD hn hF hj hd hh0 hon hot hcp (fun T fT hW => k T (finF_kept hF fT hW))) (fun h1 hZ1 l1 => ?_)
  refine px_run 5 (pc' := 325) (lv' := [(16, .int (vx n D (mM M) j d cp on ot)), (0, .ref 0), (1, .int vt), (2, .ref b), (3, .ref c), (4, .ref (b + 1)), (5, .int (Int32.ofNat n)), (6, .long x6), (8, .int vk), (9, .int (Int32.ofNat j)), (10, .int (Int32.ofNat d)), (11, .int (Int32.ofNat cp)), (12, .int (Int32.ofNat on)), (13, .int (Int32.ofNat ot)), (14, .int vw), (15, .int vf)]) (st' := [.int (Int32.ofNat cp), .int (Int32.ofNat d), .int (Int32.ofNat j), .ref (b + 1)]) rfl ?_
  refine pz_t (v := bst n D (mM M) j d cp) rfl rfl rfl rfl rfl rfl hZ1 (fun s Ψ hF k => c_best hD hn hF hj hd hh0 hcp k) (fun h2 hZ2 l2 => ?_)
  refine px_run 4 (pc' := 335) (lv' := [(17, .int (bst n D (mM M) j d cp)), (16, .int (vx n D (mM M) j d cp on ot)), (0, .ref 0), (1, .int vt), (2, .ref b), (3, .ref c), (4, .ref (b + 1)), (5, .int (Int32.ofNat n)), (6, .long x6), (8, .int vk), (9, .int (Int32.ofNat j)), (10, .int (Int32.ofNat d)), (11, .int (Int32.ofNat cp)), (12, .int (Int32.ofNat on)), (13, .int (Int32.ofNat ot)), (14, .int vw), (15, .int vf)]) (st' := [.int (Int32.ofNat 0), .int (Int32.ofNat cp), .ref (b + 1)]) rfl ?_
  refine pz_t (v := EPf n D (ef 0 (mM M)) cp) rfl rfl rfl rfl rfl rfl hZ2 (fun s Ψ hF k => c_res0 hn hF hcp (k s hF)) (fun h3 hZ3 l3 => ?_)
  refine px_run 2 (pc' := 342) (lv' := [(18, .int (EPf n D (ef 0 (mM M)) cp)), (17, .int (bst n D (mM M) j d cp)), (16, .int (vx n D (mM M) j d cp on ot)), (0, .ref 0), (1, .int vt), (2, .ref b), (3, .ref c), (4, .ref (b + 1)), (5, .int (Int32.ofNat n)), (6, .long x6), (8, .int vk), (9, .int (Int32.ofNat j)), (10, .int (Int32.ofNat d)), (11, .int (Int32.ofNat cp)), (12, .int (Int32.ofNat on)), (13, .int (Int32.ofNat ot)), (14, .int vw), (15, .int vf)]) (st' := [.int (bst n D (mM M) j d cp)]) rfl ?_
  rcases bst_any (n := n) (D := D) (j := j) (d := d) (c := cp) (m := mM M) with ⟨b1, b2⟩ | ⟨x, y, b1, b2, b3, b4, b5⟩
  · rw [b1]
    refine px_if rfl rfl (fun hb => ?_) (fun hb => by cases hb)
    refine px_run 1 (pc' := 399) (lv' := [(18, .int (EPf n D (ef 0 (mM M)) cp)), (17, .int (-1)), (16, .int (vx n D (mM M) j d cp on ot)), (0, .ref 0), (1, .int vt), (2, .ref b), (3, .ref c), (4, .ref (b + 1)), (5, .int (Int32.ofNat n)), (6, .long x6), (8, .int vk), (9, .int (Int32.ofNat j)), (10, .int (Int32.ofNat d)), (11, .int (Int32.ofNat cp)), (12, .int (Int32.ofNat on)), (13, .int (Int32.ofNat ot)), (14, .int vw), (15, .int vf)]) (st' := [.int (-1)]) rfl ?_
    refine px_if rfl rfl (fun hb => by cases hb) (fun hb => ?_)
    refine px_run 2 (pc' := 406) (lv' := [(18, .int (EPf n D (ef 0 (mM M)) cp)), (17, .int (-1)), (16, .int (vx n D (mM M) j d cp on ot)), (0, .ref 0), (1, .int vt), (2, .ref b), (3, .ref c), (4, .ref (b + 1)), (5, .int (Int32.ofNat n)), (6, .long x6), (8, .int vk), (9, .int (Int32.ofNat j)), (10, .int (Int32.ofNat d)), (11, .int (Int32.ofNat cp)), (12, .int (Int32.ofNat on)), (13, .int (Int32.ofNat ot)), (14, .int vw), (15, .int vf)]) (st' := [.int (EPf n D (ef 0 (mM M)) cp), .int (vx n D (mM M) j d cp on ot)]) rfl ?_
    refine px_icmp rfl rfl (fun hb => ?_) (fun hb => ?_)
    · refine px_sel [0, 1, 2, 3, 4, 5, 6, 8, 9, 10, 11, 12, 13, 14, 15, 16] rfl ?_
      exact lz_r3 hn1 hn hD hM hj hd hP hS hcp hon hot hZ3 (by omega) hk kk
    · have hb := xN (xc_ge _ _) hb
      exact absurd (b2 on ot hon hot) hb
  · have hxy : 10 * x + y < 1000 := by omega
    rw [b3]
    refine px_if rfl rfl (fun hb => ?_) (fun hb => ?_)
    · have hb := xT (xc_lt _ _) hb
      rw [i32_to (by omega), Int32.toInt_zero] at hb
      omega
    refine px_run 5 (pc' := 355) (lv' := [(18, .int (EPf n D (ef 0 (mM M)) cp)), (17, .int (Int32.ofNat (10 * x + y))), (16, .int (vx n D (mM M) j d cp on ot)), (0, .ref 0), (1, .int vt), (2, .ref b), (3, .ref c), (4, .ref (b + 1)), (5, .int (Int32.ofNat n)), (6, .long x6), (8, .int vk), (9, .int (Int32.ofNat j)), (10, .int (Int32.ofNat d)), (11, .int (Int32.ofNat cp)), (12, .int (Int32.ofNat on)), (13, .int (Int32.ofNat ot)), (14, .int vw), (15, .int vf)]) (st' := [.int (Int32.ofNat 10), .int (Int32.ofNat (10 * x + y)), .int (Int32.ofNat d), .int (Int32.ofNat j), .ref (b + 1)]) rfl ?_
    refine px_run 1 (pc' := 356) (lv' := [(18, .int (EPf n D (ef 0 (mM M)) cp)), (17, .int (Int32.ofNat (10 * x + y))), (16, .int (vx n D (mM M) j d cp on ot)), (0, .ref 0), (1, .int vt), (2, .ref b), (3, .ref c), (4, .ref (b + 1)), (5, .int (Int32.ofNat n)), (6, .long x6), (8, .int vk), (9, .int (Int32.ofNat j)), (10, .int (Int32.ofNat d)), (11, .int (Int32.ofNat cp)), (12, .int (Int32.ofNat on)), (13, .int (Int32.ofNat ot)), (14, .int vw), (15, .int vf)]) (st' := [.int ((Int32.ofNat (10 * x + y)) / (Int32.ofNat 10)), .int (Int32.ofNat d), .int (Int32.ofNat j), .ref (b + 1)]) rfl ?_
    rw [divN (a := 10 * x + y) (b := 10) (by omega) (by decide) (by decide), show (10 * x + y) / 10 = x by omega]
    refine px_run 2 (pc' := 360) (lv' := [(18, .int (EPf n D (ef 0 (mM M)) cp)), (17, .int (Int32.ofNat (10 * x + y))), (16, .int (vx n D (mM M) j d cp on ot)), (0, .ref 0), (1, .int vt), (2, .ref b), (3, .ref c), (4, .ref (b + 1)), (5, .int (Int32.ofNat n)), (6, .long x6), (8, .int vk), (9, .int (Int32.ofNat j)), (10, .int (Int32.ofNat d)), (11, .int (Int32.ofNat cp)), (12, .int (Int32.ofNat on)), (13, .int (Int32.ofNat ot)), (14, .int vw), (15, .int vf)]) (st' := [.int (Int32.ofNat 10), .int (Int32.ofNat (10 * x + y)), .int (Int32.ofNat x), .int (Int32.ofNat d), .int (Int32.ofNat j), .ref (b + 1)]) rfl ?_
    refine px_run 1 (pc' := 361) (lv' := [(18, .int (EPf n D (ef 0 (mM M)) cp)), (17, .int (Int32.ofNat (10 * x + y))), (16, .int (vx n D (mM M) j d cp on ot)), (0, .ref 0), (1, .int vt), (2, .ref b), (3, .ref c), (4, .ref (b + 1)), (5, .int (Int32.ofNat n)), (6, .long x6), (8, .int vk), (9, .int (Int32.ofNat j)), (10, .int (Int32.ofNat d)), (11, .int (Int32.ofNat cp)), (12, .int (Int32.ofNat on)), (13, .int (Int32.ofNat ot)), (14, .int vw), (15, .int vf)]) (st' := [.int ((Int32.ofNat (10 * x + y)) - (Int32.ofNat (10 * x + y)) / (Int32.ofNat 10) * (Int32.ofNat 10)), .int (Int32.ofNat x), .int (Int32.ofNat d), .int (Int32.ofNat j), .ref (b + 1)]) rfl ?_
    rw [remN (a := 10 * x + y) (b := 10) (by omega) (by decide) (by decide), show (10 * x + y) % 10 = y by omega]
    refine px_run 1 (pc' := 363) (lv' := [(18, .int (EPf n D (ef 0 (mM M)) cp)), (17, .int (Int32.ofNat (10 * x + y))), (16, .int (vx n D (mM M) j d cp on ot)), (0, .ref 0), (1, .int vt), (2, .ref b), (3, .ref c), (4, .ref (b + 1)), (5, .int (Int32.ofNat n)), (6, .long x6), (8, .int vk), (9, .int (Int32.ofNat j)), (10, .int (Int32.ofNat d)), (11, .int (Int32.ofNat cp)), (12, .int (Int32.ofNat on)), (13, .int (Int32.ofNat ot)), (14, .int vw), (15, .int vf)]) (st' := [.int (Int32.ofNat cp), .int (Int32.ofNat y), .int (Int32.ofNat x), .int (Int32.ofNat d), .int (Int32.ofNat j), .ref (b + 1)]) rfl ?_
    refine pz_t (v := vx n D (mM M) j d cp x y) rfl rfl rfl rfl rfl rfl hZ3 (fun s Ψ hF k => c_exdd hD hn hF hj hd hh0 (by omega) (by omega) hcp (fun T fT hW => k T (finF_kept hF fT hW))) (fun h4 hZ4 l4 => ?_)
    refine px_run 1 (pc' := 368) (lv' := [(18, .int (EPf n D (ef 0 (mM M)) cp)), (17, .int (Int32.ofNat (10 * x + y))), (16, .int (vx n D (mM M) j d cp on ot)), (0, .ref 0), (1, .int vt), (2, .ref b), (3, .ref c), (4, .ref (b + 1)), (5, .int (Int32.ofNat n)), (6, .long x6), (8, .int vk), (9, .int (Int32.ofNat j)), (10, .int (Int32.ofNat d)), (11, .int (Int32.ofNat cp)), (12, .int (Int32.ofNat on)), (13, .int (Int32.ofNat ot)), (14, .int vw), (15, .int vf)]) (st' := [.int (EPf n D (ef 0 (mM M)) cp), .int (vx n D (mM M) j d cp x y)]) rfl ?_
    refine px_icmp rfl rfl (fun hb => ?_) (fun hb => ?_)
    · have hb := xT (xc_ge _ _) hb
      omega
    refine px_run 5 (pc' := 381) (lv' := [(18, .int (EPf n D (ef 0 (mM M)) cp)), (17, .int (Int32.ofNat (10 * x + y))), (16, .int (vx n D (mM M) j d cp on ot)), (0, .ref 0), (1, .int vt), (2, .ref b), (3, .ref c), (4, .ref (b + 1)), (5, .int (Int32.ofNat n)), (6, .long x6), (8, .int vk), (9, .int (Int32.ofNat j)), (10, .int (Int32.ofNat d)), (11, .int (Int32.ofNat cp)), (12, .int (Int32.ofNat on)), (13, .int (Int32.ofNat ot)), (14, .int vw), (15, .int vf)]) (st' := [.int (Int32.ofNat 10), .int (Int32.ofNat (10 * x + y)), .int (Int32.ofNat d), .int (Int32.ofNat j), .ref (b + 1)]) rfl ?_
    refine px_run 1 (pc' := 382) (lv' := [(18, .int (EPf n D (ef 0 (mM M)) cp)), (17, .int (Int32.ofNat (10 * x + y))), (16, .int (vx n D (mM M) j d cp on ot)), (0, .ref 0), (1, .int vt), (2, .ref b), (3, .ref c), (4, .ref (b + 1)), (5, .int (Int32.ofNat n)), (6, .long x6), (8, .int vk), (9, .int (Int32.ofNat j)), (10, .int (Int32.ofNat d)), (11, .int (Int32.ofNat cp)), (12, .int (Int32.ofNat on)), (13, .int (Int32.ofNat ot)), (14, .int vw), (15, .int vf)]) (st' := [.int ((Int32.ofNat (10 * x + y)) / (Int32.ofNat 10)), .int (Int32.ofNat d), .int (Int32.ofNat j), .ref (b + 1)]) rfl ?_
    rw [divN (a := 10 * x + y) (b := 10) (by omega) (by decide) (by decide), show (10 * x + y) / 10 = x by omega]
    refine px_run 2 (pc' := 386) (lv' := [(18, .int (EPf n D (ef 0 (mM M)) cp)), (17, .int (Int32.ofNat (10 * x + y))), (16, .int (vx n D (mM M) j d cp on ot)), (0, .ref 0), (1, .int vt), (2, .ref b), (3, .ref c), (4, .ref (b + 1)), (5, .int (Int32.ofNat n)), (6, .long x6), (8, .int vk), (9, .int (Int32.ofNat j)), (10, .int (Int32.ofNat d)), (11, .int (Int32.ofNat cp)), (12, .int (Int32.ofNat on)), (13, .int (Int32.ofNat ot)), (14, .int vw), (15, .int vf)]) (st' := [.int (Int32.ofNat 10), .int (Int32.ofNat (10 * x + y)), .int (Int32.ofNat x), .int (Int32.ofNat d), .int (Int32.ofNat j), .ref (b + 1)]) rfl ?_
    refine px_run 1 (pc' := 387) (lv' := [(18, .int (EPf n D (ef 0 (mM M)) cp)), (17, .int (Int32.ofNat (10 * x + y))), (16, .int (vx n D (mM M) j d cp on ot)), (0, .ref 0), (1, .int vt), (2, .ref b), (3, .ref c), (4, .ref (b + 1)), (5, .int (Int32.ofNat n)), (6, .long x6), (8, .int vk), (9, .int (Int32.ofNat j)), (10, .int (Int32.ofNat d)), (11, .int (Int32.ofNat cp)), (12, .int (Int32.ofNat on)), (13, .int (Int32.ofNat ot)), (14, .int vw), (15, .int vf)]) (st' := [.int ((Int32.ofNat (10 * x + y)) - (Int32.ofNat (10 * x + y)) / (Int32.ofNat 10) * (Int32.ofNat 10)), .int (Int32.ofNat x), .int (Int32.ofNat d), .int (Int32.ofNat j), .ref (b + 1)]) rfl ?_
    rw [remN (a := 10 * x + y) (b := 10) (by omega) (by decide) (by decide), show (10 * x + y) % 10 = y by omega]
    refine px_run 1 (pc' := 389) (lv' := [(18, .int (EPf n D (ef 0 (mM M)) cp)), (17, .int (Int32.ofNat (10 * x + y))), (16, .int (vx n D (mM M) j d cp on ot)), (0, .ref 0), (1, .int vt), (2, .ref b), (3, .ref c), (4, .ref (b + 1)), (5, .int (Int32.ofNat n)), (6, .long x6), (8, .int vk), (9, .int (Int32.ofNat j)), (10, .int (Int32.ofNat d)), (11, .int (Int32.ofNat cp)), (12, .int (Int32.ofNat on)), (13, .int (Int32.ofNat ot)), (14, .int vw), (15, .int vf)]) (st' := [.int (Int32.ofNat cp), .int (Int32.ofNat y), .int (Int32.ofNat x), .int (Int32.ofNat d), .int (Int32.ofNat j), .ref (b + 1)]) rfl ?_
    refine pz_t (v := vx n D (mM M) j d cp x y) rfl rfl rfl rfl rfl rfl hZ4 (fun s Ψ hF k => c_exdd hD hn hF hj hd hh0 (by omega) (by omega) hcp (fun T fT hW => k T (finF_kept hF fT hW))) (fun h5 hZ5 l5 => ?_)
    refine px_run 1 (pc' := 394) (lv' := [(18, .int (EPf n D (ef 0 (mM M)) cp)), (17, .int (Int32.ofNat (10 * x + y))), (16, .int (vx n D (mM M) j d cp on ot)), (0, .ref 0), (1, .int vt), (2, .ref b), (3, .ref c), (4, .ref (b + 1)), (5, .int (Int32.ofNat n)), (6, .long x6), (8, .int vk), (9, .int (Int32.ofNat j)), (10, .int (Int32.ofNat d)), (11, .int (Int32.ofNat cp)), (12, .int (Int32.ofNat on)), (13, .int (Int32.ofNat ot)), (14, .int vw), (15, .int vf)]) (st' := [.int (vx n D (mM M) j d cp on ot), .int (vx n D (mM M) j d cp x y)]) rfl ?_
    refine px_icmp rfl rfl (fun hb => ?_) (fun hb => ?_)
    · have hb := xT (xc_gt _ _) hb
      have := b5 on ot hon hot
      omega
    refine px_run 1 (pc' := 399) (lv' := [(18, .int (EPf n D (ef 0 (mM M)) cp)), (17, .int (Int32.ofNat (10 * x + y))), (16, .int (vx n D (mM M) j d cp on ot)), (0, .ref 0), (1, .int vt), (2, .ref b), (3, .ref c), (4, .ref (b + 1)), (5, .int (Int32.ofNat n)), (6, .long x6), (8, .int vk), (9, .int (Int32.ofNat j)), (10, .int (Int32.ofNat d)), (11, .int (Int32.ofNat cp)), (12, .int (Int32.ofNat on)), (13, .int (Int32.ofNat ot)), (14, .int vw), (15, .int vf)]) (st' := [.int (Int32.ofNat (10 * x + y))]) rfl ?_
    refine px_if rfl rfl (fun hb => ?_) (fun hb => ?_)
    · refine px_sel [0, 1, 2, 3, 4, 5, 6, 8, 9, 10, 11, 12, 13, 14, 15, 16] rfl ?_
      exact lz_r3 hn1 hn hD hM hj hd hP hS hcp hon hot hZ5 (by omega) hk kk
    · have hb := xN (xc_ge _ _) hb
      rw [i32_to (by omega), Int32.toInt_zero] at hb
      omega
end YBC
