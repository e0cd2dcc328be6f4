/-! the law: two halls are made and begun; twice -/
section YBF
variable {sd : Option (List Int32)} {scl : List Int32} {μ pc : Nat} {lv : xL} {st : List Value} {h : xH} {ks : Nat} {Φ : xO → Prop}
theorem Rtol_hd (D b : Nat) : ∃ G, Rtol D b = (10, tf0 D b) :: (Rska (b + 1) ++ G) := ⟨_, rfl⟩
set_option maxRecDepth 20000 in
theorem Rtol_len (D b : Nat) : (Rtol D b).length = 156 := rfl
set_option maxRecDepth 20000 in
theorem Wa_new {H : xH} {D : Nat} {vs : List Value} (hv : vs.length = 10) : Wa (xset (H ++ Rtol D (H.length + 4)) (H.length + 4 + 92) (100, vs)) (H.length + 4) D [] [] := by
  have hk : ∀ k, k ≠ 92 → xget (xset (H ++ Rtol D (H.length + 4)) (H.length + 4 + 92) (100, vs)) (H.length + 4 + k) = (Rtol D (H.length + 4))[k]? := fun k hk => (xset_ne (by omega) (by omega)).trans (ha_get H _ k)
  have hO : Ob (H ++ Rtol D (H.length + 4)) (H.length + 4 + 1) sg0 := by
    obtain ⟨G, hG⟩ := Rtol_hd D (H.length + 4)
    have h1 := Ob_new (H ++ [(10, tf0 D (H.length + 4))]) G
    rw [show (H ++ [((10, tf0 D (H.length + 4)) : xE)]).length + 4 = H.length + 4 + 1 by rw [List.length_append, List.length_singleton]] at h1
    rw [hG, show H ++ (10, tf0 D (H.length + 4)) :: (Rska (H.length + 4 + 1) ++ G) = H ++ [(10, tf0 D (H.length + 4))] ++ Rska (H.length + 4 + 1) ++ G by simp only [List.append_assoc, List.cons_append, List.nil_append]]
    exact h1
  have h92 : xget (H ++ Rtol D (H.length + 4)) (H.length + 4 + 92) = some (arZ 10) := by
    rw [ha_get]
    rfl
  have hz : lf [] = fun _ => 0 := by
    funext k
    simp [lf]
  refine ⟨H.length + 4 + 75, H.length + 4 + 76, vs, sg0, by omega, hk 0 (by decide), by omega, by omega, hk 75 (by decide), by omega, by omega, hk 76 (by decide), hv, xset_at h92, hO.kept (by rw [xset_len]; exact Nat.le_refl _) (fun l h1 h2 => xset_ne (by omega) (by omega)), ?_⟩
  rw [hz]
  exact inA_0
theorem xmk_r (sh : Nat) : ∀ j : Nat, j < 7 → (xmk3 7 5 0 sh)[1 + j * 6]? = some (103, (List.range 5).map (fun d => Value.ref (sh + 1 + j * 6 + 1 + d))) := by
  intro j hj
  rcases (show j = 0 ∨ j = 1 ∨ j = 2 ∨ j = 3 ∨ j = 4 ∨ j = 5 ∨ j = 6 by omega) with rfl | rfl | rfl | rfl | rfl | rfl | rfl <;> rfl
theorem xmk_a (sh : Nat) : ∀ j : Nat, j < 7 → ∀ d : Nat, d < 5 → (xmk3 7 5 0 sh)[1 + j * 6 + 1 + d]? = some (100, ivs (mks [])) := by
  intro j hj d hd
  rcases (show j = 0 ∨ j = 1 ∨ j = 2 ∨ j = 3 ∨ j = 4 ∨ j = 5 ∨ j = 6 by omega) with rfl | rfl | rfl | rfl | rfl | rfl | rfl <;> rcases (show d = 0 ∨ d = 1 ∨ d = 2 ∨ d = 3 ∨ d = 4 by omega) with rfl | rfl | rfl | rfl | rfl <;> rfl
theorem Sh_new {sh : Nat} (gs : ∀ k, k < 43 → xget h (sh + k) = (xmk3 7 5 0 sh)[k]?) : Sh h sh (fun _ _ => []) := by
  refine ⟨(gs 0 (by decide)).trans rfl, fun j hj => ⟨fun d => sh + 1 + j * 6 + 1 + d, ?_, fun d hd => ⟨by show sh ≤ sh + 1 + j * 6 + 1 + d; omega, ?_⟩⟩⟩
  · rw [show sh + 1 + j * 6 = sh + (1 + j * 6) by omega, gs _ (by omega), xmk_r sh j hj]
    rw [show sh + 1 + j * 6 = sh + (1 + j * 6) by omega]
  · show xget h (sh + 1 + j * 6 + 1 + d) = _
    rw [show sh + 1 + j * 6 + 1 + d = sh + (1 + j * 6 + 1 + d) by omega, gs _ (by omega), xmk_a sh j hj d hd]
theorem Zs_new {D0 L L' b c fn sh fn' sh' A B k1 k2 : Nat} {h1 : xH} (hW : Wz scl D0 L h1 b fn sh) (hF : Fr (Pb c) A B h1 k1 h k2) (hW' : Wz scl D0 L' h c fn' sh') (hbc : b + 156 ≤ c) (hL : c + 156 ≤ L) : Zs (nnN scl D0) (ddD scl D0) (jjJ scl D0).length (ppP scl D0) (lf (ccC scl D0)) (lf (jjJ scl D0)) b c fn sh (e2D scl D0 + 1) (fun _ _ => []) (fun _ _ => []) (fun _ _ => []) h := by
  obtain ⟨cl, ju, ou, cr, pe, T, ⟨w1, w2, _, _, _, _, _, _, _, w3⟩, F, gf, lf1, lf2, gs⟩ := hW
  obtain ⟨cl', ju', ou', cr', pe', T', ⟨v1, v2, _, _, _, _, _, _, _, v3⟩, F', _⟩ := hW'
  have hk : ∀ {l : Nat} {e : xE}, xget h1 l = some e → (l < c ∨ c + 156 ≤ l) → xget h l = some e := fun {l e} q z => (hF.kp (xget_lt q).2 z).trans q
  refine ⟨w1, by omega, by omega, lf2, ⟨cl, ju, ou, cr, pe, hk w2 (Or.inl (by omega))⟩, ⟨_, v2, rfl⟩, ⟨T, w3.kept hF.le (fun l h1 h2 => hF.kp (by have := w3.1.2; omega) (Or.inl (by omega))), by rw [mM_0]; exact F⟩, ⟨T', v3, by rw [mM_0]; exact F'⟩, hk gf (Or.inr (by omega)), Sh_new (fun k hk9 => ?_)⟩
  have h42 : (xmk3 7 5 0 sh)[42]? = some (100, ivs (mks [])) := xmk_a sh 6 (by decide) 4 (by decide)
  have hl := gs 42 (by decide)
  rw [h42] at hl
  have hlt := (xget_lt hl).2
  rw [hF.kp (by omega) (Or.inr (by omega))]
  exact gs k hk9
theorem bc0 : bc6 (Int32.ofNat 0) = 0 := by decide
theorem ppP_ok (D : Nat) : ∃ p, p < 128 ∧ p ≠ 0 ∧ 2 ≤ bcN (Int32.ofNat p) ∧ ppP scl D = Int32.ofNat p := by
  obtain ⟨r, hr⟩ := jj_fl (scl := scl) (D := D)
  obtain ⟨j1, j2, j3, j4⟩ := jj_ok (scl := scl) (D := D)
  have hlen := congrArg List.length hr
  rw [List.length_map] at hlen
  simp only [List.length_cons] at hlen
  have hpk := pan_ok r (by omega)
  rw [← hr] at hpk
  unfold panOK at hpk
  rw [Bool.and_eq_true, Bool.and_eq_true, Bool.and_eq_true, decide_eq_true_eq, decide_eq_true_eq, decide_eq_true_eq, decide_eq_true_eq] at hpk
  obtain ⟨⟨⟨p1, p2⟩, p3⟩, p4⟩ := hpk
  have p2 : 3 ≤ (bc6 (ppP scl D)).toInt := p2
  have p3 : ppP scl D = Int32.ofNat (ppP scl D).toBitVec.toNat := p3
  have p4 : (ppP scl D).toBitVec.toNat < 2 ^ (List.map (isB (ccC scl D)) (jjJ scl D)).length := p4
  have p5 : 2 ^ (List.map (isB (ccC scl D)) (jjJ scl D)).length ≤ 2 ^ 7 := Nat.pow_le_pow_right (by decide) (by rw [List.length_map]; omega)
  have p6 : (2 : Nat) ^ 7 = 128 := rfl
  generalize ppP scl D = P at p2 p3 p4
  generalize P.toBitVec.toNat = p at p3 p4
  refine ⟨p, by omega, fun z => ?_, ?_, p3⟩
  · rw [p3, z, bc0, Int32.toInt_zero] at p2
    omega
  · rw [p3] at p2
    unfold bcN
    omega
def lEnd (HB SB : Nat) (o : xO) : Prop := ∃ h' ks', o = (none, some (.int 1), h', ks') ∧ h'.length ≤ HB ∧ ks' ≤ SB
theorem t31 (tm : Nat) : Int32.ofNat 31 * Int32.ofNat tm + Int32.ofNat 7 = Int32.ofNat (31 * tm + 7) := by rw [Int32.ofNat_add, Int32.ofNat_mul]
set_option maxHeartbeats 4000000 in
set_option maxRecDepth 20000 in
theorem lz_time {HB SB : Nat} (hs : scl.length < 100000) : ∀ (m9 tm : Nat) (h : xH) (ks : Nat), tm + m9 = 2 → h.length + 800 * m9 ≤ HB → ks + 8000 * m9 ≤ SB → Px (some scl) (some scl) 111 2 [(0, .ref 0), (1, .int (Int32.ofNat tm))] [] h ks (lEnd HB SB) := by
  intro m9
  induction m9 with
  | zero =>
    intro tm h ks ht hh hk
    have e : tm = 2 := by omega
    subst e
    refine px_run 2 (pc' := 4) (lv' := [(0, .ref 0), (1, .int (Int32.ofNat 2))]) (st' := [.int (Int32.ofNat 2), .int (Int32.ofNat 2)]) rfl ?_
    refine px_icmp rfl rfl (fun hb => ?_) (fun hb => by cases hb)
    refine px_run 1 (pc' := 718) (lv' := [(0, .ref 0), (1, .int (Int32.ofNat 2))]) (st' := [.int (Int32.ofNat 1)]) rfl ?_
    exact px_ret rfl rfl (xex_bool rfl (Or.inr rfl)) ⟨h, ks, rfl, by omega, by omega⟩
  | succ m9 ih =>
    intro tm h ks ht hh hk
    refine px_run 2 (pc' := 4) (lv' := [(0, .ref 0), (1, .int (Int32.ofNat tm))]) (st' := [.int (Int32.ofNat 2), .int (Int32.ofNat tm)]) rfl ?_
    refine px_icmp rfl rfl (fun hb => ?_) (fun hb => ?_)
    · have hb := xT (xc_ge _ _) hb
      rw [i32_to (by omega), i32_to (by omega)] at hb
      omega
    refine px_new (pc' := 10) (lv' := [(0, .ref 0), (1, .int (Int32.ofNat tm))]) (st' := [.ref (h.length + 4)]) (h' := h ++ [(10, xdef 10)]) (ks' := ks + 26) rfl rfl rfl ?_
    refine px_run 7 (pc' := 19) (lv' := [(0, .ref 0), (1, .int (Int32.ofNat tm))]) (st' := [.int (((Int32.ofNat 31) * (Int32.ofNat tm)) + (Int32.ofNat 7)), .ref 0, .ref (h.length + 4), .ref (h.length + 4)]) rfl ?_
    rw [t31]
    obtain ⟨vs1, hvs1, Cvs1⟩ := Kx_tol (sd := some scl) (ks := ks + 26) (D := 31 * tm + 7) (H := h)
    refine px_sp (rest := [.ref (h.length + 4)]) rfl (fun r q => by cases q) rfl ⟨by decide, rfl, rfl, rfl⟩ Cvs1 ?_
    show Px (some scl) (some scl) 111 22 _ [.ref (h.length + 4)] (xset (h ++ Rtol (31 * tm + 7) (h.length + 4)) (h.length + 4 + 92) (100, vs1)) (ks + 26 + 2617) (lEnd HB SB)
    have W1 := Wa_new (H := h) (D := 31 * tm + 7) hvs1
    have l1 : (xset (h ++ Rtol (31 * tm + 7) (h.length + 4)) (h.length + 4 + 92) (100, vs1)).length = h.length + 156 := by rw [xset_len, List.length_append, Rtol_len]
    have f1 : ∀ l, l < h.length + 4 → xget (xset (h ++ Rtol (31 * tm + 7) (h.length + 4)) (h.length + 4 + 92) (100, vs1)) l = xget h l := fun l hl => (xset_ne (by omega) (by omega)).trans (xapp_old hl)
    generalize xset (h ++ Rtol (31 * tm + 7) (h.length + 4)) (h.length + 4 + 92) (100, vs1) = h1 at *
    refine px_run 1 (pc' := 23) (lv' := [(2, .ref (h.length + 4)), (0, .ref 0), (1, .int (Int32.ofNat tm))]) (st' := []) rfl ?_
    refine px_new (pc' := 26) (lv' := [(2, .ref (h.length + 4)), (0, .ref 0), (1, .int (Int32.ofNat tm))]) (st' := [.ref (h1.length + 4)]) (h' := h1 ++ [(10, xdef 10)]) (ks' := (ks + 26 + 2617) + 26) rfl rfl rfl ?_
    refine px_run 7 (pc' := 35) (lv' := [(2, .ref (h.length + 4)), (0, .ref 0), (1, .int (Int32.ofNat tm))]) (st' := [.int (((Int32.ofNat 31) * (Int32.ofNat tm)) + (Int32.ofNat 7)), .ref 0, .ref (h1.length + 4), .ref (h1.length + 4)]) rfl ?_
    rw [t31]
    obtain ⟨vs2, hvs2, Cvs2⟩ := Kx_tol (sd := some scl) (ks := (ks + 26 + 2617) + 26) (D := 31 * tm + 7) (H := h1)
    refine px_sp (rest := [.ref (h1.length + 4)]) rfl (fun r q => by cases q) rfl ⟨by decide, rfl, rfl, rfl⟩ Cvs2 ?_
    show Px (some scl) (some scl) 111 38 _ [.ref (h1.length + 4)] (xset (h1 ++ Rtol (31 * tm + 7) (h1.length + 4)) (h1.length + 4 + 92) (100, vs2)) ((ks + 26 + 2617) + 26 + 2617) (lEnd HB SB)
    have W2 := Wa_new (H := h1) (D := 31 * tm + 7) hvs2
    have l2 : (xset (h1 ++ Rtol (31 * tm + 7) (h1.length + 4)) (h1.length + 4 + 92) (100, vs2)).length = h1.length + 156 := by rw [xset_len, List.length_append, Rtol_len]
    have f2 : ∀ l, l < h1.length + 4 → xget (xset (h1 ++ Rtol (31 * tm + 7) (h1.length + 4)) (h1.length + 4 + 92) (100, vs2)) l = xget h1 l := fun l hl => (xset_ne (by omega) (by omega)).trans (xapp_old hl)
    generalize xset (h1 ++ Rtol (31 * tm + 7) (h1.length + 4)) (h1.length + 4 + 92) (100, vs2) = h2 at *
    have W3 := W1.kept (h' := h2) (by omega) (fun l _ hl => f2 l hl)
    obtain ⟨b, hb9⟩ : ∃ b, b = h.length + 4 := ⟨_, rfl⟩
    obtain ⟨c, hc9⟩ : ∃ c, c = h1.length + 4 := ⟨_, rfl⟩
    rw [← hb9] at W3 ⊢
    rw [← hc9] at W2 ⊢
    refine px_run 2 (pc' := 40) (lv' := [(3, .ref c), (2, .ref b), (0, .ref 0), (1, .int (Int32.ofNat tm))]) (st' := [.ref b]) rfl ?_
    have W4 := W3
    obtain ⟨cl, ju, vsx, s, hb4, hg, _⟩ := W4
    refine px_gf rfl rfl hg rfl ?_
    refine px_run 2 (pc' := 46) (lv' := [(4, .ref (b + 1)), (3, .ref c), (2, .ref b), (0, .ref 0), (1, .int (Int32.ofNat tm))]) (st' := [.ref b]) rfl ?_
    refine px_st (as := [.ref b]) (rest := []) rfl rfl rfl rfl rfl (cw_isb hs (by omega) (by omega) W3 (fun h3 k3 fn sh Z3 F3 => ?_))
    show Px (some scl) (some scl) 111 49 _ [.int 1] h3 k3 (lEnd HB SB)
    have l3 := F3.le
    have u3 := F3.up
    have s3 := F3.sl
    have W5 := W2.kept (h' := h3) l3 (fun l h9 hl => F3.kp hl (Or.inr (by omega)))
    refine px_if rfl rfl (fun hb => by cases hb) (fun hb => ?_)
    refine px_run 1 (pc' := 53) (lv' := [(4, .ref (b + 1)), (3, .ref c), (2, .ref b), (0, .ref 0), (1, .int (Int32.ofNat tm))]) (st' := [.ref c]) rfl ?_
    refine px_st (as := [.ref c]) (rest := []) rfl rfl rfl rfl rfl (cw_isb hs (by omega) (by omega) W5 (fun h4 k4 fn' sh' Z4 F4 => ?_))
    show Px (some scl) (some scl) 111 56 _ [.int 1] h4 k4 (lEnd HB SB)
    have u4 := F4.up
    have s4 := F4.sl
    refine px_if rfl rfl (fun hb => ?_) (fun hb => by cases hb)
    have hZ := Zs_new Z3 F4 Z4 (by omega) (by omega)
    obtain ⟨p, p1, p2, p3, p4⟩ := ppP_ok (scl := scl) (31 * tm + 7)
    obtain ⟨n1, n2⟩ := nnN_b (scl := scl) (D := 31 * tm + 7)
    obtain ⟨d1, d2⟩ := ddD_b (scl := scl) (D := 31 * tm + 7)
    obtain ⟨j1, j2, j3, j4⟩ := jj_ok (scl := scl) (D := 31 * tm + 7)
    refine px_sel [0, 1, 2, 3, 4] rfl ?_
    refine lz_fin9 (by omega) (by omega) d1 (by omega) j1 p4 p1 p2 p3 hs (by omega) (fun h5 k5 l5 s5 => ?_) hZ
    rw [i32_s]
    exact ih (tm + 1) h5 k5 (by omega) (by omega) (by omega)
end YBF
