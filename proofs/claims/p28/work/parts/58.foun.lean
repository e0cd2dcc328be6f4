/-! people come into a told hall -/
section YAK
variable {sd : Option (List Int32)} {scl : List Int32} {μ pc : Nat} {lv : xL} {st : List Value} {h : xH} {ks : Nat} {Φ : xO → Prop}
theorem yput_no {h : xH} {b l : Nat} {s : yS} (hb : 4 ≤ b) (hl : ¬ (b ≤ l ∧ l < b + 74)) : xget (yput h b s) l = xget h l := by
  by_cases h5 : 4 ≤ l
  · rw [xget_hi h5, xget_hi h5]
    by_cases h6 : l - 4 < h.length
    · rw [yput_at b s h6, if_neg (fun q => hl (by omega)), List.getD_eq_getElem?_getD, List.getElem?_eq_getElem h6]
      rfl
    · rw [List.getElem?_eq_none (by rw [yput_len]; omega), List.getElem?_eq_none (by omega)]
  · rw [xget_lo h5, xget_lo h5]
theorem pred1 (n : Nat) : Int32.ofNat (n + 1) - 1 = Int32.ofNat n := subN (a := n + 1) (b := 1) (by omega)
def lf (L : List Int32) : Nat → Int32 := fun k => L.getD k 0
theorem lf_add (L : List Int32) (v : Int32) : lf (L ++ [v]) = fup (lf L) L.length v := by
  funext k
  unfold fup
  show (L ++ [v]).getD k 0 = if k = L.length then v else L.getD k 0
  rw [List.getD_eq_getElem?_getD, List.getD_eq_getElem?_getD, List.getElem?_append]
  by_cases h1 : k = L.length
  · subst h1
    rw [if_neg (Nat.lt_irrefl _), if_pos rfl, Nat.sub_self]
    rfl
  · rw [if_neg h1]
    by_cases h2 : k < L.length
    · rw [if_pos h2]
    · rw [if_neg h2, List.getElem?_eq_none (by simp; omega), List.getElem?_eq_none (by omega)]
def Pb (b l : Nat) : Prop := l < b ∨ b + 156 ≤ l
abbrev tfA (b D cl ju : Nat) : List Value := tfs b D cl ju 0 0 0 0 0 0 (b + 91) (b + 92) (b + 93) (b + 101) (b + 102) (b + 145)
/-- a told hall before its event -/
def Wa (h : xH) (b D : Nat) (C J : List Int32) : Prop := ∃ (cl ju : Nat) (vs : List Value) (s : yS), 4 ≤ b ∧ xget h b = some (10, tfA b D cl ju) ∧ b + 75 ≤ cl ∧ cl ≠ b + 92 ∧ xget h cl = some (100, ivs C) ∧ b + 75 ≤ ju ∧ ju ≠ b + 92 ∧ xget h ju = some (100, ivs J) ∧ vs.length = 10 ∧ xget h (b + 92) = some (100, vs) ∧ Ob h (b + 1) s ∧ inA s C.length J.length (lf C) (lf J)
theorem Wa.kept {h h' : xH} {b D : Nat} {C J : List Int32} (hW : Wa h b D C J) (hl : h.length ≤ h'.length) (hk : ∀ l, b ≤ l → l < h.length + 4 → xget h' l = xget h l) : Wa h' b D C J := by
  obtain ⟨cl, ju, vs, s, hb, hg, c1, c2, hc, j1, j2, hj, hv, hh, hO, hA⟩ := hW
  exact ⟨cl, ju, vs, s, hb, (hk _ (Nat.le_refl _) (xget_lt hg).2).trans hg, c1, c2, (hk _ (by omega) (xget_lt hc).2).trans hc, j1, j2, (hk _ (by omega) (xget_lt hj).2).trans hj, hv, (hk _ (by omega) (xget_lt hh).2).trans hh, hO.kept hl (fun l h1 h2 => hk l (by omega) (by have := hO.1.2; omega)), hA⟩
theorem recvT {μ' b : Nat} {F as : List Value} (hg : xget h b = some (10, F)) (hm : xmo μ' = 10) : xrecv μ' (.ref b :: as) h = true := by
  show (match xget h b with | some (ci, _) => decide (ci = xmo μ') && Nat.blt ci xNX | none => false) = true
  rw [hg, hm]
  rfl
theorem Wa.recv {μ' b D : Nat} {C J : List Int32} {as : List Value} (hW : Wa h b D C J) (hm : xmo μ' = 10) : xrecv μ' (.ref b :: as) h = true := by
  obtain ⟨cl, ju, vs, s, hb, hg, _⟩ := hW
  exact recvT hg hm
theorem cw_draw {b D N : Nat} {C J : List Int32} (hD : D < 10000) (hN : 0 < N) (hN2 : N < 1000) (hs : scl.length < 100000) (hW : Wa h b D C J) (kk : ∀ h', Wa h' b (D + 1) C J → Fr (Pb b) 0 0 h ks h' ks → Φ (none, some (.int (Int32.ofNat (drw scl D N))), h', ks)) : Qx (some scl) 79 [.ref b, .int (Int32.ofNat N)] h ks Φ := by
  obtain ⟨cl, ju, vs, s, hb, hg, c1, c2, hc, j1, j2, hj, hv, hh, hO, hA⟩ := hW
  refine cx_draw hD hN hN2 hs hg rfl rfl (kk _ ?_ (Fr.set hb (fun q => by unfold Pb at q; omega)))
  exact ⟨cl, ju, vs, s, hb, xset_at hg, c1, c2, (xset_ne hb (by omega)).trans hc, j1, j2, (xset_ne hb (by omega)).trans hj, hv, (xset_ne hb (by omega)).trans hh, hO.kept (by rw [xset_len]; exact Nat.le_refl _) (fun l h1 h2 => xset_ne hb (by omega)), hA⟩
set_option maxHeartbeats 1000000 in
theorem cw_coup {b D v : Nat} {C J : List Int32} (hv6 : v < 6) (hC : C.length < 10) (hW : Wa h b D C J) (kk : ∀ h', Wa h' b D (C ++ [Int32.ofNat v]) J → Fr (Pb b) 1 10 h ks h' (ks + (C.length + 1)) → Φ (none, some (.int 1), h', ks + (C.length + 1))) : Qx (some scl) 90 [.ref b, .int (Int32.ofNat v)] h ks Φ := by
  obtain ⟨cl, ju, vs, s, hb, hg, c1, c2, hc, j1, j2, hj, hv, hh, hO, hA⟩ := hW
  have lg := (xget_lt hg).2
  have lc := (xget_lt hc).2
  have lj := (xget_lt hj).2
  have lh := (xget_lt hh).2
  have lo := hO.1.2
  refine Qx.of (Or.inl rfl) (Nat.le_of_ble_eq_true rfl) ?_
  refine px_step (pc' := 1) (lv' := [(0, .ref b), (1, .int (Int32.ofNat v))]) (st' := [.ref b]) rfl rfl rfl ?_
  refine px_step (pc' := 2) (st' := [.ref b, .ref b]) rfl rfl rfl ?_
  refine px_gf rfl rfl hg rfl ?_
  refine px_step (pc' := 6) (st' := [.int (Int32.ofNat v), .ref cl, .ref b]) rfl rfl rfl ?_
  refine px_st rfl rfl rfl rfl rfl (cx_plus hc (by omega) ?_)
  show Px (some scl) (some scl) 90 9 _ [.ref (h.length + 4), .ref b] (h ++ [(100, ivs (C ++ [Int32.ofNat v]))]) (ks + (C.length + 1)) Φ
  have g1 : xget (h ++ [(100, ivs (C ++ [Int32.ofNat v]))]) b = some (10, tfA b D cl ju) := (xapp_old lg).trans hg
  refine px_pf rfl rfl g1 rfl (Nat.le_of_ble_eq_true rfl) rfl rfl (Or.inl rfl) ?_
  have g2 : xget (xset (h ++ [(100, ivs (C ++ [Int32.ofNat v]))]) b (10, tfA b D (h.length + 4) ju)) b = some (10, tfA b D (h.length + 4) ju) := xset_at g1
  have hO2 : Ob (xset (h ++ [(100, ivs (C ++ [Int32.ofNat v]))]) b (10, tfA b D (h.length + 4) ju)) (b + 1) s := hO.kept (by rw [xset_len, List.length_append]; omega) (fun l h1 h2 => (xset_ne hb (by omega)).trans (xapp_old (by omega)))
  show Px (some scl) (some scl) 90 12 _ [] (xset (h ++ [(100, ivs (C ++ [Int32.ofNat v]))]) b (10, tfA b D (h.length + 4) ju)) (ks + (C.length + 1)) Φ
  generalize hh2 : xset (h ++ [(100, ivs (C ++ [Int32.ofNat v]))]) b (10, tfA b D (h.length + 4) ju) = h2 at *
  refine px_step (pc' := 13) (st' := [.ref b]) rfl rfl rfl ?_
  refine px_gf rfl rfl g2 rfl ?_
  refine px_step (pc' := 17) (st' := [.int (Int32.ofNat v), .ref (b + 1)]) rfl rfl rfl ?_
  refine px_cls (rest := []) rfl rfl rfl rfl rfl rfl hO2 (c_coup hv6 hC hA ?_)
  have hy : ∀ l, ¬ (b + 1 ≤ l ∧ l < b + 1 + 74) → xget (yput h2 (b + 1) (yup (yup s 3 C.length (Int32.ofNat v)) 1 0 (Int32.ofNat (C.length + 1)))) l = xget h2 l := fun l q => yput_no (by omega) q
  have hO3 := hO2.put (yup (yup s 3 C.length (Int32.ofNat v)) 1 0 (Int32.ofNat (C.length + 1)))
  have hF3 : Fr (Pb b) 0 0 h2 (ks + (C.length + 1)) (yput h2 (b + 1) (yup (yup s 3 C.length (Int32.ofNat v)) 1 0 (Int32.ofNat (C.length + 1)))) (ks + (C.length + 1)) := Fr.ob (by omega) (fun l h1 h2 q => by unfold Pb at q; omega)
  generalize hh3 : yput h2 (b + 1) (yup (yup s 3 C.length (Int32.ofNat v)) 1 0 (Int32.ofNat (C.length + 1))) = h3 at *
  have o2 : ∀ l, l < h.length + 4 → l ≠ b → xget h2 l = xget h l := fun l h1 h2 => by
    rw [← hh2, xset_ne hb h2]
    exact xapp_old h1
  have n2 : xget h2 (h.length + 4) = some (100, ivs (C ++ [Int32.ofNat v])) := by
    rw [← hh2, xset_ne hb (by omega)]
    exact xapp_new h _ 0
  have g3 : xget h3 b = some (10, tfA b D (h.length + 4) ju) := (hy b (by omega)).trans g2
  have c3 : xget h3 (h.length + 4) = some (100, ivs (C ++ [Int32.ofNat v])) := (hy _ (by omega)).trans n2
  have ll : (ivs (C ++ [Int32.ofNat v])).length = C.length + 1 := by simp
  show Px (some scl) (some scl) 90 20 _ [.int (Int32.ofNat C.length)] h3 (ks + (C.length + 1)) Φ
  refine px_step (pc' := 21) (st' := [.ref b, .int (Int32.ofNat C.length)]) rfl rfl rfl ?_
  refine px_gf rfl rfl g3 rfl ?_
  refine px_al rfl c3 (by decide) ?_
  rw [ll]
  refine px_step (pc' := 26) (st' := [.int 1, .int (Int32.ofNat (C.length + 1)), .int (Int32.ofNat C.length)]) rfl rfl rfl ?_
  refine px_step (pc' := 27) (st' := [.int (Int32.ofNat (C.length + 1) - 1), .int (Int32.ofNat C.length)]) rfl rfl rfl ?_
  rw [pred1]
  refine px_icmp rfl rfl (fun hb => ?_) (fun hb => ?_)
  · rw [show xcmp .ne (Int32.ofNat C.length) (Int32.ofNat C.length) = false by simp [xcmp]] at hb
    cases hb
  · refine px_step (pc' := 31) (st' := [.int 1]) rfl rfl rfl ?_
    refine px_step (pc' := 35) (st' := [.int 1]) rfl rfl rfl ?_
    refine px_ret rfl rfl (xex_bool rfl (Or.inr rfl)) (kk h3 ?_ ?_)
    · refine ⟨h.length + 4, ju, vs, _, by omega, g3, by omega, by omega, c3, j1, j2, (hy _ (by omega)).trans ((o2 ju lj (by omega)).trans hj), hv, (hy _ (by omega)).trans ((o2 _ lh (by omega)).trans hh), hO3, ?_⟩
      rw [List.length_append, lf_add]
      exact inA_c hA
    · have f1 : Fr (Pb b) 1 10 h ks (h ++ [(100, ivs (C ++ [Int32.ofNat v]))]) (ks + (C.length + 1)) := Fr.app (Nat.le_refl _) (by omega)
      have f2 : Fr (Pb b) 0 0 (h ++ [(100, ivs (C ++ [Int32.ofNat v]))]) (ks + (C.length + 1)) h2 (ks + (C.length + 1)) := by
        rw [← hh2]
        exact Fr.set (by omega) (fun q => by unfold Pb at q; omega)
      exact (f1.trans (f2.trans hF3)).mono (fun _ _ q => q) (by omega) (by omega)
set_option maxHeartbeats 1000000 in
theorem cw_judg {b D v : Nat} {C J : List Int32} (hv6 : v < 6) (hC : J.length < 7) (hW : Wa h b D C J) (kk : ∀ h', Wa h' b D C (J ++ [Int32.ofNat v]) → Fr (Pb b) 1 10 h ks h' (ks + (J.length + 1)) → Φ (none, some (.int 1), h', ks + (J.length + 1))) : Qx (some scl) 95 [.ref b, .int (Int32.ofNat v)] h ks Φ := by
  obtain ⟨cl, ju, vs, s, hb, hg, c1, c2, hc, j1, j2, hj, hv, hh, hO, hA⟩ := hW
  have lg := (xget_lt hg).2
  have lc := (xget_lt hc).2
  have lj := (xget_lt hj).2
  have lh := (xget_lt hh).2
  have lo := hO.1.2
  refine Qx.of (Or.inl rfl) (Nat.le_of_ble_eq_true rfl) ?_
  refine px_step (pc' := 1) (lv' := [(0, .ref b), (1, .int (Int32.ofNat v))]) (st' := [.ref b]) rfl rfl rfl ?_
  refine px_step (pc' := 2) (st' := [.ref b, .ref b]) rfl rfl rfl ?_
  refine px_gf rfl rfl hg rfl ?_
  refine px_step (pc' := 6) (st' := [.int (Int32.ofNat v), .ref ju, .ref b]) rfl rfl rfl ?_
  refine px_st rfl rfl rfl rfl rfl (cx_plus hj (by omega) ?_)
  show Px (some scl) (some scl) 95 9 _ [.ref (h.length + 4), .ref b] (h ++ [(100, ivs (J ++ [Int32.ofNat v]))]) (ks + (J.length + 1)) Φ
  have g1 : xget (h ++ [(100, ivs (J ++ [Int32.ofNat v]))]) b = some (10, tfA b D cl ju) := (xapp_old lg).trans hg
  refine px_pf rfl rfl g1 rfl (Nat.le_of_ble_eq_true rfl) rfl rfl (Or.inl rfl) ?_
  have g2 : xget (xset (h ++ [(100, ivs (J ++ [Int32.ofNat v]))]) b (10, tfA b D cl (h.length + 4))) b = some (10, tfA b D cl (h.length + 4)) := xset_at g1
  have hO2 : Ob (xset (h ++ [(100, ivs (J ++ [Int32.ofNat v]))]) b (10, tfA b D cl (h.length + 4))) (b + 1) s := hO.kept (by rw [xset_len, List.length_append]; omega) (fun l h1 h2 => (xset_ne hb (by omega)).trans (xapp_old (by omega)))
  show Px (some scl) (some scl) 95 12 _ [] (xset (h ++ [(100, ivs (J ++ [Int32.ofNat v]))]) b (10, tfA b D cl (h.length + 4))) (ks + (J.length + 1)) Φ
  generalize hh2 : xset (h ++ [(100, ivs (J ++ [Int32.ofNat v]))]) b (10, tfA b D cl (h.length + 4)) = h2 at *
  refine px_step (pc' := 13) (st' := [.ref b]) rfl rfl rfl ?_
  refine px_gf rfl rfl g2 rfl ?_
  refine px_step (pc' := 17) (st' := [.int (Int32.ofNat v), .ref (b + 1)]) rfl rfl rfl ?_
  refine px_cls (rest := []) rfl rfl rfl rfl rfl rfl hO2 (c_judg hv6 hC hA ?_)
  have hy : ∀ l, ¬ (b + 1 ≤ l ∧ l < b + 1 + 74) → xget (yput h2 (b + 1) (yup (yup s 12 J.length (Int32.ofNat v)) 10 0 (Int32.ofNat (J.length + 1)))) l = xget h2 l := fun l q => yput_no (by omega) q
  have hO3 := hO2.put (yup (yup s 12 J.length (Int32.ofNat v)) 10 0 (Int32.ofNat (J.length + 1)))
  have hF3 : Fr (Pb b) 0 0 h2 (ks + (J.length + 1)) (yput h2 (b + 1) (yup (yup s 12 J.length (Int32.ofNat v)) 10 0 (Int32.ofNat (J.length + 1)))) (ks + (J.length + 1)) := Fr.ob (by omega) (fun l h1 h2 q => by unfold Pb at q; omega)
  generalize hh3 : yput h2 (b + 1) (yup (yup s 12 J.length (Int32.ofNat v)) 10 0 (Int32.ofNat (J.length + 1))) = h3 at *
  have o2 : ∀ l, l < h.length + 4 → l ≠ b → xget h2 l = xget h l := fun l h1 h2 => by
    rw [← hh2, xset_ne hb h2]
    exact xapp_old h1
  have n2 : xget h2 (h.length + 4) = some (100, ivs (J ++ [Int32.ofNat v])) := by
    rw [← hh2, xset_ne hb (by omega)]
    exact xapp_new h _ 0
  have g3 : xget h3 b = some (10, tfA b D cl (h.length + 4)) := (hy b (by omega)).trans g2
  have c3 : xget h3 (h.length + 4) = some (100, ivs (J ++ [Int32.ofNat v])) := (hy _ (by omega)).trans n2
  have ll : (ivs (J ++ [Int32.ofNat v])).length = J.length + 1 := by simp
  show Px (some scl) (some scl) 95 20 _ [.int (Int32.ofNat J.length)] h3 (ks + (J.length + 1)) Φ
  refine px_step (pc' := 21) (st' := [.ref b, .int (Int32.ofNat J.length)]) rfl rfl rfl ?_
  refine px_gf rfl rfl g3 rfl ?_
  refine px_al rfl c3 (by decide) ?_
  rw [ll]
  refine px_step (pc' := 26) (st' := [.int 1, .int (Int32.ofNat (J.length + 1)), .int (Int32.ofNat J.length)]) rfl rfl rfl ?_
  refine px_step (pc' := 27) (st' := [.int (Int32.ofNat (J.length + 1) - 1), .int (Int32.ofNat J.length)]) rfl rfl rfl ?_
  rw [pred1]
  refine px_icmp rfl rfl (fun hb => ?_) (fun hb => ?_)
  · rw [show xcmp .ne (Int32.ofNat J.length) (Int32.ofNat J.length) = false by simp [xcmp]] at hb
    cases hb
  · refine px_step (pc' := 31) (st' := [.int 1]) rfl rfl rfl ?_
    refine px_step (pc' := 35) (st' := [.int 1]) rfl rfl rfl ?_
    refine px_ret rfl rfl (xex_bool rfl (Or.inr rfl)) (kk h3 ?_ ?_)
    · refine ⟨cl, h.length + 4, vs, _, by omega, g3, c1, c2, (hy _ (by omega)).trans ((o2 cl lc (by omega)).trans hc), by omega, by omega, c3, hv, (hy _ (by omega)).trans ((o2 _ lh (by omega)).trans hh), hO3, ?_⟩
      rw [List.length_append, lf_add]
      exact inA_j hA
    · have f1 : Fr (Pb b) 1 10 h ks (h ++ [(100, ivs (J ++ [Int32.ofNat v]))]) (ks + (J.length + 1)) := Fr.app (Nat.le_refl _) (by omega)
      have f2 : Fr (Pb b) 0 0 (h ++ [(100, ivs (J ++ [Int32.ofNat v]))]) (ks + (J.length + 1)) h2 (ks + (J.length + 1)) := by
        rw [← hh2]
        exact Fr.set (by omega) (fun q => by unfold Pb at q; omega)
      exact (f1.trans (f2.trans hF3)).mono (fun _ _ q => q) (by omega) (by omega)
def fcl (scl : List Int32) : Nat → Nat → List Int32 → List Int32
  | 0, _, C => C
  | f + 1, D, C => fcl scl f (D + 1) (C ++ [Int32.ofNat (drw scl D 3)])
def fju (scl : List Int32) : Nat → Nat → Nat → List Int32 → List Int32 × Nat
  | 0, _, D, J => (J, D + 1)
  | f + 1, k, D, J => if 3 + drw scl D 5 ≤ k then (J, D + 1) else if J.length < 7 then fju scl f (k + 1) (D + 2) (J ++ [Int32.ofNat (if k < 3 then 3 + drw scl (D + 1) 3 else drw scl (D + 1) 6)]) else fju scl f (k + 1) (D + 1) J
theorem lz_fcl {b n : Nat} {J : List Int32} (hn : n ≤ 10) (hs : scl.length < 100000) : ∀ (f i D : Nat) (C : List Int32) (h : xH) (ks : Nat), i + f = n → C.length + f ≤ 10 → D + f ≤ 10000 → Wa h b D C J → (∀ h' ks', Wa h' b (D + f) (fcl scl f D C) J → Fr (Pb b) f (10 * f) h ks h' ks' → Px (some scl) (some scl) 89 27 [(2, .int (Int32.ofNat n)), (0, .ref b), (1, .int (Int32.ofNat n))] [] h' ks' Φ) → Px (some scl) (some scl) 89 2 [(2, .int (Int32.ofNat i)), (0, .ref b), (1, .int (Int32.ofNat n))] [] h ks Φ := by
  intro f
  induction f with
  | zero =>
    intro i D C h ks hi hC hD hW kk
    have e : i = n := by omega
    subst e
    refine px_step (pc' := 3) (st' := [.int (Int32.ofNat i)]) rfl rfl rfl ?_
    refine px_step (pc' := 4) (st' := [.int (Int32.ofNat i), .int (Int32.ofNat i)]) rfl rfl rfl ?_
    refine px_icmp rfl rfl (fun hb => kk h ks hW Fr.refl) (fun hb => ?_)
    have hb := xN (xc_ge _ _) hb
    omega
  | succ f ih =>
    intro i D C h ks hi hC hD hW kk
    refine px_step (pc' := 3) (st' := [.int (Int32.ofNat i)]) rfl rfl rfl ?_
    refine px_step (pc' := 4) (st' := [.int (Int32.ofNat n), .int (Int32.ofNat i)]) rfl rfl rfl ?_
    refine px_icmp rfl rfl (fun hb => ?_) (fun hb => ?_)
    · have hb := xT (xc_ge _ _) hb
      rw [i32_to (by omega), i32_to (by omega)] at hb
      omega
    refine px_step (pc' := 8) (st' := [.ref b]) rfl rfl rfl ?_
    refine px_step (pc' := 9) (st' := [.ref b, .ref b]) rfl rfl rfl ?_
    refine px_step (pc' := 10) (st' := [.int (Int32.ofNat 3), .ref b, .ref b]) rfl rfl rfl ?_
    refine px_vi (as := [.ref b, .int (Int32.ofNat 3)]) (rest := [.ref b]) rfl rfl (hW.recv rfl) rfl rfl (cw_draw (by omega) (by decide) (by decide) hs hW (fun h1 hW1 f1 => ?_))
    show Px (some scl) (some scl) 89 13 _ [.int (Int32.ofNat (drw scl D 3)), .ref b] h1 ks Φ
    have h3 : drw scl D 3 < 3 := drw_lt (by decide)
    refine px_vi (as := [.ref b, .int (Int32.ofNat (drw scl D 3))]) (rest := []) rfl rfl (hW1.recv rfl) rfl rfl (cw_coup (by omega) (by omega) hW1 (fun h2 hW2 f2 => ?_))
    show Px (some scl) (some scl) 89 16 _ [.int 1] h2 (ks + (C.length + 1)) Φ
    refine px_if rfl rfl (fun hb => ?_) (fun hb => by cases hb)
    refine px_step (pc' := 24) (lv' := [(2, .int (Int32.ofNat (i + 1))), (0, .ref b), (1, .int (Int32.ofNat n))]) (st' := []) (h' := h2) (ks' := ks + (C.length + 1)) rfl rfl (by rw [← i32_s]; rfl) ?_
    refine px_step (pc' := 2) (st' := []) rfl rfl rfl ?_
    refine ih (i + 1) (D + 1) (C ++ [Int32.ofNat (drw scl D 3)]) h2 _ (by omega) (by simp; omega) (by omega) hW2 (fun h' ks' hW' f' => ?_)
    rw [show D + 1 + f = D + (f + 1) by omega] at hW'
    exact kk h' ks' hW' ((f1.trans (f2.trans f')).mono (fun _ _ q => q) (by omega) (by omega))
set_option maxHeartbeats 1000000 in
theorem lz_fju {b n : Nat} {C : List Int32} (hs : scl.length < 100000) : ∀ (f k D : Nat) (J : List Int32) (h : xH) (ks : Nat), k + f = 8 → J.length ≤ 7 → D + 2 * f + 1 ≤ 10000 → Wa h b D C J → (∀ h' ks', Wa h' b (fju scl f k D J).2 C (fju scl f k D J).1 → Fr (Pb b) f (10 * f) h ks h' ks' → Φ (none, some (.int 1), h', ks')) → Px (some scl) (some scl) 89 29 [(2, .int (Int32.ofNat k)), (0, .ref b), (1, .int (Int32.ofNat n))] [] h ks Φ := by
  intro f
  induction f with
  | zero =>
    intro k D J h ks hk hJ hD hW kk
    refine px_step (pc' := 30) (st' := [.int (Int32.ofNat k)]) rfl rfl rfl ?_
    refine px_step (pc' := 31) (st' := [.int 3, .int (Int32.ofNat k)]) rfl rfl rfl ?_
    refine px_step (pc' := 32) (st' := [.ref b, .int 3, .int (Int32.ofNat k)]) rfl rfl rfl ?_
    refine px_step (pc' := 33) (st' := [.int (Int32.ofNat 5), .ref b, .int 3, .int (Int32.ofNat k)]) rfl rfl rfl ?_
    refine px_vi (as := [.ref b, .int (Int32.ofNat 5)]) (rest := [.int 3, .int (Int32.ofNat k)]) rfl rfl (hW.recv rfl) rfl rfl (cw_draw (by omega) (by decide) (by decide) hs hW (fun h1 hW1 f1 => ?_))
    show Px (some scl) (some scl) 89 36 _ [.int (Int32.ofNat (drw scl D 5)), .int 3, .int (Int32.ofNat k)] h1 ks Φ
    have h5 : drw scl D 5 < 5 := drw_lt (by decide)
    refine px_step (pc' := 37) (st' := [.int (Int32.ofNat (3 + drw scl D 5)), .int (Int32.ofNat k)]) rfl rfl (by rw [Int32.ofNat_add]; rfl) ?_
    have hex : ∀ {h1 : xH}, Φ (none, some (.int 1), h1, ks) → Px (some scl) (some scl) 89 86 [(2, .int (Int32.ofNat k)), (0, .ref b), (1, .int (Int32.ofNat n))] [] h1 ks Φ := fun q => by
      refine px_step (pc' := 87) (st' := [.int 1]) rfl rfl rfl ?_
      exact px_ret rfl rfl (xex_bool rfl (Or.inr rfl)) q
    refine px_icmp rfl rfl (fun hb => hex (kk h1 ks hW1 f1)) (fun hb => ?_)
    have hb := xN (xc_ge _ _) hb
    rw [i32_to (by omega), i32_to (by omega)] at hb
    omega
  | succ f ih =>
    intro k D J h ks hk hJ hD hW kk
    unfold fju at kk
    refine px_step (pc' := 30) (st' := [.int (Int32.ofNat k)]) rfl rfl rfl ?_
    refine px_step (pc' := 31) (st' := [.int 3, .int (Int32.ofNat k)]) rfl rfl rfl ?_
    refine px_step (pc' := 32) (st' := [.ref b, .int 3, .int (Int32.ofNat k)]) rfl rfl rfl ?_
    refine px_step (pc' := 33) (st' := [.int (Int32.ofNat 5), .ref b, .int 3, .int (Int32.ofNat k)]) rfl rfl rfl ?_
    refine px_vi (as := [.ref b, .int (Int32.ofNat 5)]) (rest := [.int 3, .int (Int32.ofNat k)]) rfl rfl (hW.recv rfl) rfl rfl (cw_draw (by omega) (by decide) (by decide) hs hW (fun h1 hW1 f1 => ?_))
    show Px (some scl) (some scl) 89 36 _ [.int (Int32.ofNat (drw scl D 5)), .int 3, .int (Int32.ofNat k)] h1 ks Φ
    have h5 : drw scl D 5 < 5 := drw_lt (by decide)
    refine px_step (pc' := 37) (st' := [.int (Int32.ofNat (3 + drw scl D 5)), .int (Int32.ofNat k)]) rfl rfl (by rw [Int32.ofNat_add]; rfl) ?_
    have hex : ∀ {h1 : xH}, Φ (none, some (.int 1), h1, ks) → Px (some scl) (some scl) 89 86 [(2, .int (Int32.ofNat k)), (0, .ref b), (1, .int (Int32.ofNat n))] [] h1 ks Φ := fun q => by
      refine px_step (pc' := 87) (st' := [.int 1]) rfl rfl rfl ?_
      exact px_ret rfl rfl (xex_bool rfl (Or.inr rfl)) q
    refine px_icmp rfl rfl (fun hb => ?_) (fun hb => ?_)
    · have hb := xT (xc_ge _ _) hb
      rw [i32_to (by omega), i32_to (by omega)] at hb
      rw [if_pos (by omega)] at kk
      exact hex (kk h1 ks hW1 (f1.mono (fun _ _ q => q) (by omega) (by omega)))
    have hb := xN (xc_ge _ _) hb
    rw [i32_to (by omega), i32_to (by omega)] at hb
    rw [if_neg (by omega)] at kk
    -- what follows when there are enough
    have hmo : ∀ {h2 : xH} {ks2 D2 : Nat} {J2 : List Int32}, J2.length ≤ 7 → D2 + 2 * f + 1 ≤ 10000 → Wa h2 b D2 C J2 → (∀ h' ks', Wa h' b (fju scl f (k + 1) D2 J2).2 C (fju scl f (k + 1) D2 J2).1 → Fr (Pb b) f (10 * f) h2 ks2 h' ks' → Φ (none, some (.int 1), h', ks')) → Px (some scl) (some scl) 89 80 [(2, .int (Int32.ofNat k)), (0, .ref b), (1, .int (Int32.ofNat n))] [] h2 ks2 Φ := fun {h2 ks2 D2 J2} q1 q2 q3 q4 => by
      refine px_step (pc' := 83) (lv' := [(2, .int (Int32.ofNat (k + 1))), (0, .ref b), (1, .int (Int32.ofNat n))]) (st' := []) (h' := h2) (ks' := ks2) rfl rfl (by rw [← i32_s]; rfl) ?_
      refine px_step (pc' := 29) (st' := []) rfl rfl rfl ?_
      exact ih (k + 1) D2 J2 h2 ks2 (by omega) q1 q2 q3 q4
    have hju : ∀ {h2 : xH} {D2 v : Nat}, v < 6 → J.length < 7 → D2 + 2 * f + 1 ≤ 10000 → Wa h2 b D2 C J → Fr (Pb b) 0 0 h ks h2 ks → (∀ h' ks', Wa h' b (fju scl f (k + 1) D2 (J ++ [Int32.ofNat v])).2 C (fju scl f (k + 1) D2 (J ++ [Int32.ofNat v])).1 → Fr (Pb b) (f + 1) (10 * (f + 1)) h ks h' ks' → Φ (none, some (.int 1), h', ks')) → Px (some scl) (some scl) 89 72 [(2, .int (Int32.ofNat k)), (0, .ref b), (1, .int (Int32.ofNat n))] [.int (Int32.ofNat v), .ref b] h2 ks Φ := fun {h2 D2 v} q1 q2 q3 q4 q5 q6 => by
      refine px_vi (as := [.ref b, .int (Int32.ofNat v)]) (rest := []) rfl rfl (q4.recv rfl) rfl rfl (cw_judg q1 q2 q4 (fun h3 hW3 f3 => ?_))
      show Px (some scl) (some scl) 89 75 _ [.int 1] h3 (ks + (J.length + 1)) Φ
      refine px_if rfl rfl (fun hb => ?_) (fun hb => by cases hb)
      exact hmo (by simp; omega) q3 hW3 (fun h' ks' w1 w2 => q6 h' ks' w1 ((q5.trans (f3.trans w2)).mono (fun _ _ q => q) (by omega) (by omega)))
    refine px_step (pc' := 41) (st' := [.ref b]) rfl rfl rfl ?_
    have hW1' := hW1
    obtain ⟨cl, ju, vs, s, hb4, hg, c1, c2, hc, j1, j2, hj, hv, hh, hO, hA⟩ := hW1'
    refine px_gf rfl rfl hg rfl ?_
    refine px_al rfl hj (by decide) ?_
    rw [show (ivs J).length = J.length by simp]
    refine px_step (pc' := 47) (st' := [.int (Int32.ofNat 7), .int (Int32.ofNat J.length)]) rfl rfl rfl ?_
    refine px_icmp rfl rfl (fun hb7 => ?_) (fun hb7 => ?_)
    · have hb7 := xT (xc_ge _ _) hb7
      rw [i32_to (by omega), i32_to (by omega)] at hb7
      rw [if_neg (by omega)] at kk
      exact hmo hJ (by omega) hW1 (fun h' ks' w1 w2 => kk h' ks' w1 ((f1.trans w2).mono (fun _ _ q => q) (by omega) (by omega)))
    have hb7 := xN (xc_ge _ _) hb7
    rw [i32_to (by omega), i32_to (by omega)] at hb7
    rw [if_pos (by omega)] at kk
    refine px_step (pc' := 51) (st' := [.ref b]) rfl rfl rfl ?_
    refine px_step (pc' := 52) (st' := [.int (Int32.ofNat k), .ref b]) rfl rfl rfl ?_
    refine px_step (pc' := 53) (st' := [.int (Int32.ofNat 3), .int (Int32.ofNat k), .ref b]) rfl rfl rfl ?_
    refine px_icmp rfl rfl (fun hb3 => ?_) (fun hb3 => ?_)
    · have hb3 := xT (xc_ge _ _) hb3
      rw [i32_to (by omega), i32_to (by omega)] at hb3
      rw [if_neg (by omega)] at kk
      refine px_step (pc' := 67) (st' := [.ref b, .ref b]) rfl rfl rfl ?_
      refine px_step (pc' := 69) (st' := [.int (Int32.ofNat 6), .ref b, .ref b]) rfl rfl rfl ?_
      refine px_vi (as := [.ref b, .int (Int32.ofNat 6)]) (rest := [.ref b]) rfl rfl (hW1.recv rfl) rfl rfl (cw_draw (by omega) (by decide) (by decide) hs hW1 (fun h2 hW2 f2 => ?_))
      exact hju (drw_lt (by decide)) (by omega) (by omega) hW2 (f1.trans f2) kk
    · have hb3 := xN (xc_ge _ _) hb3
      rw [i32_to (by omega), i32_to (by omega)] at hb3
      rw [if_pos (by omega)] at kk
      refine px_step (pc' := 57) (st' := [.int 3, .ref b]) rfl rfl rfl ?_
      refine px_step (pc' := 58) (st' := [.ref b, .int 3, .ref b]) rfl rfl rfl ?_
      refine px_step (pc' := 59) (st' := [.int (Int32.ofNat 3), .ref b, .int 3, .ref b]) rfl rfl rfl ?_
      refine px_vi (as := [.ref b, .int (Int32.ofNat 3)]) (rest := [.int 3, .ref b]) rfl rfl (hW1.recv rfl) rfl rfl (cw_draw (by omega) (by decide) (by decide) hs hW1 (fun h2 hW2 f2 => ?_))
      show Px (some scl) (some scl) 89 62 _ [.int (Int32.ofNat (drw scl (D + 1) 3)), .int 3, .ref b] h2 ks Φ
      have h3 : drw scl (D + 1) 3 < 3 := drw_lt (by decide)
      refine px_step (pc' := 63) (st' := [.int (Int32.ofNat (3 + drw scl (D + 1) 3)), .ref b]) rfl rfl (by rw [Int32.ofNat_add]; rfl) ?_
      refine px_step (pc' := 72) (st' := [.int (Int32.ofNat (3 + drw scl (D + 1) 3)), .ref b]) rfl rfl rfl ?_
      exact hju (by omega) (by omega) (by omega) hW2 (f1.trans f2) kk
theorem cw_foun {b D n : Nat} (hn : n ≤ 10) (hs : scl.length < 100000) (hD : D < 9000) (hW : Wa h b D [] []) (kk : ∀ h' ks', Wa h' b (fju scl 8 0 (D + n) []).2 (fcl scl n D []) (fju scl 8 0 (D + n) []).1 → Fr (Pb b) (n + 8) (10 * n + 80) h ks h' ks' → Φ (none, some (.int 1), h', ks')) : Qx (some scl) 89 [.ref b, .int (Int32.ofNat n)] h ks Φ := by
  refine Qx.of (Or.inl rfl) (Nat.le_of_ble_eq_true rfl) ?_
  refine px_step (pc' := 1) (lv' := [(0, .ref b), (1, .int (Int32.ofNat n))]) (st' := [.int (Int32.ofNat 0)]) rfl rfl rfl ?_
  refine px_step (pc' := 2) (lv' := [(2, .int (Int32.ofNat 0)), (0, .ref b), (1, .int (Int32.ofNat n))]) (st' := []) rfl rfl rfl ?_
  refine lz_fcl hn hs n 0 D [] h ks (by omega) (by simpa using hn) (by omega) hW (fun h1 k1 hW1 f1 => ?_)
  refine px_step (pc' := 28) (st' := [.int (Int32.ofNat 0)]) rfl rfl rfl ?_
  refine px_step (pc' := 29) (lv' := [(2, .int (Int32.ofNat 0)), (0, .ref b), (1, .int (Int32.ofNat n))]) (st' := []) rfl rfl rfl ?_
  refine lz_fju hs 8 0 (D + n) [] h1 k1 rfl (by decide) (by omega) hW1 (fun h2 k2 hW2 f2 => ?_)
  exact kk h2 k2 hW2 ((f1.trans f2).mono (fun _ _ q => q) (by omega) (by omega))
-- what comes
theorem fcl_len : ∀ (f D : Nat) (C : List Int32), (fcl scl f D C).length = C.length + f := by
  intro f
  induction f with
  | zero => exact fun _ _ => rfl
  | succ f ih =>
    intro D C
    show (fcl scl f (D + 1) (C ++ [Int32.ofNat (drw scl D 3)])).length = _
    rw [ih, List.length_append]
    show C.length + 1 + f = _
    omega
theorem fcl_mem : ∀ (f D : Nat) (C : List Int32), (∀ v ∈ C, ∃ a, a < 3 ∧ v = Int32.ofNat a) → ∀ v ∈ fcl scl f D C, ∃ a, a < 3 ∧ v = Int32.ofNat a := by
  intro f
  induction f with
  | zero => exact fun _ _ q => q
  | succ f ih =>
    intro D C q
    refine ih (D + 1) _ (fun v hv => ?_)
    rcases List.mem_append.mp hv with h1 | h1
    · exact q v h1
    · exact ⟨drw scl D 3, drw_lt (by decide), List.mem_singleton.mp h1⟩
theorem fju_ok : ∀ (f k D : Nat) (J : List Int32), k + f = 8 → J.length ≤ 7 → (k ≤ 3 → J.length = k) → (3 ≤ k → 3 ≤ J.length) → (∀ i, i < J.length → ∃ a, a < 6 ∧ J[i]? = some (Int32.ofNat a) ∧ (i < 3 → 3 ≤ a)) → (fju scl f k D J).1.length ≤ 7 ∧ 3 ≤ (fju scl f k D J).1.length ∧ (fju scl f k D J).2 ≤ D + 2 * f + 1 ∧ ∀ i, i < (fju scl f k D J).1.length → ∃ a, a < 6 ∧ (fju scl f k D J).1[i]? = some (Int32.ofNat a) ∧ (i < 3 → 3 ≤ a) := by
  intro f
  induction f with
  | zero =>
    intro k D J hk h7 h1 h2 h3
    exact ⟨h7, h2 (by omega), by show D + 1 ≤ _; omega, h3⟩
  | succ f ih =>
    intro k D J hk h7 h1 h2 h3
    unfold fju
    by_cases e1 : 3 + drw scl D 5 ≤ k
    · rw [if_pos e1]
      exact ⟨h7, h2 (by omega), by show D + 1 ≤ _; omega, h3⟩
    · rw [if_neg e1]
      by_cases e2 : J.length < 7
      · rw [if_pos e2]
        have h5 : drw scl (D + 1) 3 < 3 := drw_lt (by decide)
        have h6 : drw scl (D + 1) 6 < 6 := drw_lt (by decide)
        have hx : ∀ i, i < (J ++ [Int32.ofNat (if k < 3 then 3 + drw scl (D + 1) 3 else drw scl (D + 1) 6)]).length → ∃ a, a < 6 ∧ (J ++ [Int32.ofNat (if k < 3 then 3 + drw scl (D + 1) 3 else drw scl (D + 1) 6)])[i]? = some (Int32.ofNat a) ∧ (i < 3 → 3 ≤ a) := by
          intro i hi
          rw [List.length_append] at hi
          by_cases e3 : i < J.length
          · obtain ⟨a, a1, a2, a3⟩ := h3 i e3
            exact ⟨a, a1, by rw [List.getElem?_append_left e3]; exact a2, a3⟩
          · have e4 : i = J.length := by simp at hi; omega
            subst e4
            refine ⟨if k < 3 then 3 + drw scl (D + 1) 3 else drw scl (D + 1) 6, ?_, by rw [List.getElem?_append_right (Nat.le_refl _), Nat.sub_self]; rfl, fun q => ?_⟩
            · split <;> omega
            · by_cases e5 : k < 3
              · rw [if_pos e5]
                omega
              · have := h2 (by omega)
                omega
        obtain ⟨r1, r2, r3, r4⟩ := ih (k + 1) (D + 2) (J ++ [Int32.ofNat (if k < 3 then 3 + drw scl (D + 1) 3 else drw scl (D + 1) 6)]) (by omega) (by rw [List.length_append]; show J.length + 1 ≤ 7; omega) (fun q => by have := h1 (by omega); rw [List.length_append]; show J.length + 1 = k + 1; omega) (fun q => by
          by_cases e3 : 3 ≤ k
          · have := h2 e3
            rw [List.length_append]
            omega
          · have := h1 (by omega)
            rw [List.length_append]
            show 3 ≤ J.length + 1
            omega) hx
        exact ⟨r1, r2, by omega, r4⟩
      · rw [if_neg e2]
        obtain ⟨r1, r2, r3, r4⟩ := ih (k + 1) (D + 1) J (by omega) h7 (fun q => by have := h1 (by omega); omega) (fun q => by
          by_cases e3 : 3 ≤ k
          · exact h2 e3
          · have := h1 (by omega)
            omega) h3
        exact ⟨r1, r2, by omega, r4⟩
end YAK
