/-! an event told and opened -/
section YAN
variable {sd : Option (List Int32)} {scl : List Int32} {μ pc : Nat} {lv : xL} {st : List Value} {h : xH} {ks : Nat} {Φ : xO → Prop}
/-- a told hall: its fields F, its lists, its object s -/
def Wg (h : xH) (b : Nat) (F : List Value) (cl ju : Nat) (C J : List Int32) (s : yS) : Prop := 4 ≤ b ∧ xget h b = some (10, F) ∧ b + 75 ≤ cl ∧ cl ≠ b + 92 ∧ xget h cl = some (100, ivs C) ∧ b + 75 ≤ ju ∧ ju ≠ b + 92 ∧ xget h ju = some (100, ivs J) ∧ (∃ vs : List Value, vs.length = 10 ∧ xget h (b + 92) = some (100, vs)) ∧ Ob h (b + 1) s
theorem Wg.put {b : Nat} {F F' : List Value} {cl ju : Nat} {C J : List Int32} {s : yS} (hW : Wg h b F cl ju C J s) : Wg (xset h b (10, F')) b F' cl ju C J s := by
  obtain ⟨hb, hg, c1, c2, hc, j1, j2, hj, ⟨vs, hv, hh⟩, hO⟩ := hW
  exact ⟨hb, xset_at hg, c1, c2, (xset_ne hb (by omega)).trans hc, j1, j2, (xset_ne hb (by omega)).trans hj, ⟨vs, hv, (xset_ne hb (by omega)).trans hh⟩, hO.kept (by rw [xset_len]; exact Nat.le_refl _) (fun l h1 h2 => xset_ne hb (by omega))⟩
theorem Wg.old {b k' A B : Nat} {h' : xH} {F : List Value} {cl ju : Nat} {C J : List Int32} {s : yS} (hW : Wg h b F cl ju C J s) (hF : Fr Pt A B h ks h' k') : Wg h' b F cl ju C J s := by
  obtain ⟨hb, hg, c1, c2, hc, j1, j2, hj, ⟨vs, hv, hh⟩, hO⟩ := hW
  exact ⟨hb, (hF.kp (xget_lt hg).2 trivial).trans hg, c1, c2, (hF.kp (xget_lt hc).2 trivial).trans hc, j1, j2, (hF.kp (xget_lt hj).2 trivial).trans hj, ⟨vs, hv, (hF.kp (xget_lt hh).2 trivial).trans hh⟩, hO.kept hF.le (fun l h1 h2 => hF.kp (by have := hO.1.2; omega) trivial)⟩
theorem Wg.heat {b : Nat} {F vs' : List Value} {cl ju : Nat} {C J : List Int32} {s : yS} (hW : Wg h b F cl ju C J s) (hv' : vs'.length = 10) : Wg (xset h (b + 92) (100, vs')) b F cl ju C J s := by
  obtain ⟨hb, hg, c1, c2, hc, j1, j2, hj, ⟨vs, hv, hh⟩, hO⟩ := hW
  exact ⟨hb, (xset_ne (by omega) (by omega)).trans hg, c1, c2, (xset_ne (by omega) (by omega)).trans hc, j1, j2, (xset_ne (by omega) (by omega)).trans hj, ⟨vs', hv', xset_at hh⟩, hO.kept (by rw [xset_len]; exact Nat.le_refl _) (fun l h1 h2 => xset_ne (by omega) (by omega))⟩
theorem Wg.cls {b : Nat} {F : List Value} {cl ju : Nat} {C J : List Int32} {s s' : yS} (hW : Wg h b F cl ju C J s) : Wg (yput h (b + 1) s') b F cl ju C J s' := by
  obtain ⟨hb, hg, c1, c2, hc, j1, j2, hj, ⟨vs, hv, hh⟩, hO⟩ := hW
  exact ⟨hb, (yput_no (by omega) (by omega)).trans hg, c1, c2, (yput_no (by omega) (by omega)).trans hc, j1, j2, (yput_no (by omega) (by omega)).trans hj, ⟨vs, hv, (yput_no (by omega) (by omega)).trans hh⟩, hO.put s'⟩
theorem px_pfW {x j kd r b : Nat} {v : Value} {F rest : List Value} {T : u_T} {N : Nat} {Cn : String} {cl ju : Nat} {C J : List Int32} {s : yS} (hi : (xmc μ)[pc]? = some (some (.putfield x))) (hf : xfnd (xfldT (xmo μ)) x = some (10, j, kd, r)) (hc : xcl[10]? = some (Cn, T, N)) (hW : Wg h b F cl ju C J s) (hj : j < F.length) (hn : narrow (xtyf 10 j) v = v) (hft : fits (xtyf 10 j) v = true) (hfin : (T j).2.2.2 = false) (kk : ∀ h', Wg h' b (F.set j v) cl ju C J s → Fr (Pb b) 0 0 h ks h' ks → Px sd sd μ (pc + 3) lv rest h' ks Φ) : Px sd sd μ pc lv (v :: .ref b :: rest) h ks Φ :=
  px_pf hi hf hW.2.1 hc hj hn hft (Or.inl hfin) (kk _ hW.put (Fr.set hW.1 (fun q => by unfold Pb at q; omega)))
theorem px_new1 {A B m b : Nat} {rest : List Value} {F : List Value} {cl ju : Nat} {C J : List Int32} {s : yS} (hi : (xmc μ)[pc]? = some (some (.newarray .int))) (hm : m < 100000) (hW : Wg h b F cl ju C J s) (hA : 1 ≤ A) (hB : m ≤ B) (kk : ∀ h', Wg h' b F cl ju C J s → xget h' (h.length + 4) = some (100, List.replicate m (.int 0)) → Fr Pt A B h ks h' (ks + m) → Px sd sd μ (pc + 2) lv (.ref (h.length + 4) :: rest) h' (ks + m) Φ) : Px sd sd μ pc lv (.int (Int32.ofNat m) :: rest) h ks Φ :=
  px_nai hi hm (kk _ (hW.old (Fr.app (ks := ks) (A := 1) (B := m) (n := m) (Nat.le_refl _) (Nat.le_refl _))) (xapp_new h _ 0) (Fr.app hA hB))
theorem px_mulW {x dm sl A B b : Nat} {rest : List Value} {es : xH} {F : List Value} {cl ju : Nat} {C J : List Int32} {s : yS} (hi : (xmc μ)[pc]? = some (some (.multianewarray x dm))) (hf : xmul (xmo μ) x dm st (h.length + 4) = some (rest, es, sl)) (hW : Wg h b F cl ju C J s) (hA : es.length ≤ A) (hB : sl ≤ B) (kk : ∀ h', Wg h' b F cl ju C J s → (∀ k, xget h' (h.length + 4 + k) = es[k]?) → Fr Pt A B h ks h' (ks + sl) → Px sd sd μ (pc + 4) lv (.ref (h.length + 4) :: rest) h' (ks + sl) Φ) : Px sd sd μ pc lv st h ks Φ :=
  px_mul hi hf (kk _ (hW.old (Fr.app (ks := ks) (A := es.length) (B := sl) (n := sl) (Nat.le_refl _) (Nat.le_refl _))) (xapp_new h es) (Fr.app hA hB))
theorem Fr.pb {A B b k' : Nat} {h' : xH} (x : Fr Pt A B h ks h' k') : Fr (Pb b) A B h ks h' k' := x.mono (fun _ _ _ => trivial) (Nat.le_refl _) (Nat.le_refl _)
/-- an object whose event is open -/
def inO (s : yS) (n D J : Nat) (P : Int32) (cl jc : Nat → Int32) : Prop := s 1 0 = Int32.ofNat n ∧ s 3 = cl ∧ s 10 0 = Int32.ofNat J ∧ s 12 = jc ∧ (∀ k, k ≠ 1 → k ≠ 3 → k ≠ 10 → k ≠ 12 → k ≠ 15 → k ≠ 17 → s k = sg0 k) ∧ s 15 0 = 1 ∧ s 15 1 = all (Int32.ofNat n) ∧ s 15 2 = all (Int32.ofNat n) ∧ s 15 3 = P ∧ s 15 4 = Int32.ofNat D ∧ s 15 5 = 0 ∧ ∀ j, j < 10 → s 17 j = 0
theorem evS_O {s : yS} {n D J : Nat} {P : Int32} {cl jc : Nat → Int32} (hA : inA s n J cl jc) : inO (evS s (all (Int32.ofNat n)) P (Int32.ofNat D)) n D J P cl jc := by
  obtain ⟨a, b, c, d, e⟩ := hA
  have hk : ∀ k, k ≠ 15 → k ≠ 17 → evS s (all (Int32.ofNat n)) P (Int32.ofNat D) k = s k := by
    intro k h1 h2
    funext j
    show (if k = 16 + 1 ∧ j < 10 then 0 else (yup (yup (yup (yup (yup (yup s 15 0 1) 15 1 (all (Int32.ofNat n))) 15 2 (all (Int32.ofNat n))) 15 3 P) 15 4 (Int32.ofNat D)) 15 5 0) k j) = s k j
    rw [if_neg (fun q => h2 q.1), yup_ne h1, yup_ne h1, yup_ne h1, yup_ne h1, yup_ne h1, yup_ne h1]
  refine ⟨(congrFun (hk 1 (by decide) (by decide)) 0).trans a, (hk 3 (by decide) (by decide)).trans b, (congrFun (hk 10 (by decide) (by decide)) 0).trans c, (hk 12 (by decide) (by decide)).trans d, fun k h1 h2 h3 h4 h5 h6 => (hk k h5 h6).trans (e k h1 h2 h3 h4), rfl, rfl, rfl, rfl, rfl, rfl, fun j hj => ?_⟩
  show (if 17 = 16 + 1 ∧ j < 10 then 0 else _) = _
  rw [if_pos ⟨rfl, hj⟩]
def pnO (C J : List Int32) : Int32 := pnP (pRec (J.map (isB C)) 0 (0, 0))
set_option maxHeartbeats 2000000 in
theorem cw_open {b D n Dn : Nat} {C J : List Int32} {r : List Bool} (hn : C.length = n) (hn3 : 3 ≤ n) (hn7 : n ≤ 7) (hJ7 : J.length ≤ 7) (hD1 : 1 ≤ Dn) (hD5 : Dn ≤ 5) (hC : ∀ v ∈ C, ∃ a, a < 6 ∧ v = Int32.ofNat a) (hJ : ∀ v ∈ J, ∃ a, a < 6 ∧ v = Int32.ofNat a) (hfl : J.map (isB C) = true :: true :: true :: r) (hW : Wa h b D C J)
    (kk : ∀ h' ks' cl ju ou cr s, Wg h' b (tfs b D cl ju 1 0 (all (Int32.ofNat n)) (all (Int32.ofNat n)) (pnO C J) (Int32.ofNat Dn) ou (b + 92) cr (b + 101) (b + 102) (b + 145)) cl ju C J s → inO s n Dn J.length (pnO C J) (lf C) (lf J) → Fr (Pb b) 20 200 h ks h' ks' → Φ (none, some (.int 1), h', ks')) : Qx (some scl) 98 [.ref b, .int (all (Int32.ofNat n)), .int (Int32.ofNat Dn)] h ks Φ := by
  obtain ⟨cl, ju, vs, s, hb, hg, c1, c2, hc, j1, j2, hj, hv, hh, hO, hA⟩ := hW
  have hW : Wg h b (tfA b D cl ju) cl ju C J s := ⟨hb, hg, c1, c2, hc, j1, j2, hj, ⟨vs, hv, hh⟩, hO⟩
  have hr4 : r.length ≤ 4 := by
    have := congrArg List.length hfl
    rw [List.length_map] at this
    simp only [List.length_cons] at this
    omega
  have hpk := pan_ok r hr4
  rw [← hfl] at hpk
  unfold panOK at hpk
  rw [Bool.and_eq_true, Bool.and_eq_true, Bool.and_eq_true, decide_eq_true_eq, decide_eq_true_eq, decide_eq_true_eq, decide_eq_true_eq] at hpk
  obtain ⟨⟨⟨p1, p2⟩, p3⟩, p4⟩ := hpk
  have hpn : pnP (pnB (clb (all (Int32.ofNat n)) (lf C) n) (lf J) J.length) = pnO C J := by rw [pnB_ok hn (by omega) hC hJ]; rfl
  refine Qx.of (Or.inl rfl) (Nat.le_of_ble_eq_true rfl) ?_
  refine px_step (pc' := 1) (lv' := [(0, .ref b), (1, .int (all (Int32.ofNat n))), (2, .int (Int32.ofNat Dn))]) (st' := [.ref b]) rfl rfl rfl ?_
  refine px_step (pc' := 2) (st' := [.ref b, .ref b]) rfl rfl rfl ?_
  refine px_step (pc' := 3) (st' := [.int (all (Int32.ofNat n)), .ref b, .ref b]) rfl rfl rfl ?_
  refine px_step (pc' := 4) (st' := [.int (all (Int32.ofNat n)), .ref b, .int (all (Int32.ofNat n)), .ref b]) rfl rfl rfl ?_
  refine px_pfW rfl rfl rfl hW (Nat.le_of_ble_eq_true rfl) rfl rfl rfl (fun h1 W1 f1 => ?_)
  refine px_pfW rfl rfl rfl W1 (Nat.le_of_ble_eq_true rfl) rfl rfl rfl (fun h2 W2 f2 => ?_)
  refine px_step (pc' := 11) (st' := [.ref b]) rfl rfl rfl ?_
  refine px_step (pc' := 12) (st' := [.int (Int32.ofNat Dn), .ref b]) rfl rfl rfl ?_
  refine px_pfW rfl rfl rfl W2 (Nat.le_of_ble_eq_true rfl) rfl rfl rfl (fun h3 W3 f3 => ?_)
  refine px_step (pc' := 16) (st' := [.ref b]) rfl rfl rfl ?_
  refine px_step (pc' := 17) (st' := [.ref b, .ref b]) rfl rfl rfl ?_
  refine px_step (pc' := 18) (st' := [.int (all (Int32.ofNat n)), .ref b, .ref b]) rfl rfl rfl ?_
  refine px_vi (as := [.ref b, .int (all (Int32.ofNat n))]) (rest := [.ref b]) rfl rfl (recvT W3.2.1 rfl) rfl rfl (cx_panF (en := all (Int32.ofNat n)) (da := Int32.ofNat Dn) (D := D) hn (by omega) hJ7 hfl W3.2.1 W3.2.2.2.2.1 W3.2.2.2.2.2.2.2.1 (fun h4 k4 f4 => ?_))
  have W4 := W3.old f4
  rw [p1]
  show Px (some scl) (some scl) 98 21 _ [.int (pnO C J), .ref b] h4 k4 Φ
  refine px_pfW rfl rfl rfl W4 (Nat.le_of_ble_eq_true rfl) rfl rfl rfl (fun h5 W5 f5 => ?_)
  refine px_step (pc' := 25) (st' := [.ref b]) rfl rfl rfl ?_
  refine px_step (pc' := 26) (st' := [.int 1, .ref b]) rfl rfl rfl ?_
  refine px_pfW rfl rfl rfl W5 (Nat.le_of_ble_eq_true rfl) rfl rfl rfl (fun h6 W6 f6 => ?_)
  refine px_step (pc' := 30) (st' := [.ref b]) rfl rfl rfl ?_
  refine px_step (pc' := 31) (st' := [.int 0, .ref b]) rfl rfl rfl ?_
  refine px_pfW rfl rfl rfl W6 (Nat.le_of_ble_eq_true rfl) rfl rfl rfl (fun h7 W7 f7 => ?_)
  refine px_step (pc' := 35) (st' := [.ref b]) rfl rfl rfl ?_
  refine px_step (pc' := 36) (st' := [.int 0, .ref b]) rfl rfl rfl ?_
  refine px_pfW rfl rfl rfl W7 (Nat.le_of_ble_eq_true rfl) rfl rfl rfl (fun h8 W8 f8 => ?_)
  refine px_step (pc' := 40) (st' := [.ref b]) rfl rfl rfl ?_
  refine px_step (pc' := 42) (st' := [.int (Int32.ofNat 10), .ref b]) rfl rfl rfl ?_
  refine px_new1 (A := 1) (B := 10) rfl (by decide) W8 (Nat.le_refl _) (Nat.le_refl _) (fun h9 W9 _ f9 => ?_)
  refine px_pfW rfl rfl rfl W9 (Nat.le_of_ble_eq_true rfl) rfl rfl rfl (fun ha Wx fa => ?_)
  refine px_step (pc' := 48) (st' := [.ref b]) rfl rfl rfl ?_
  refine px_step (pc' := 50) (st' := [.int (Int32.ofNat 7), .ref b]) rfl rfl rfl ?_
  refine px_step (pc' := 51) (st' := [.int (Int32.ofNat 5), .int (Int32.ofNat 7), .ref b]) rfl rfl rfl ?_
  refine px_mulW (A := 8) (B := 42) (sl := 42) (es := xmk2 0 7 5 (ha.length + 4)) rfl rfl Wx (Nat.le_of_ble_eq_true rfl) (Nat.le_refl _) (fun hb2 Wb2 _ fb => ?_)
  refine px_pfW rfl rfl rfl Wb2 (Nat.le_of_ble_eq_true rfl) rfl rfl rfl (fun hc2 Wc fc => ?_)
  refine px_step (pc' := 59) (st' := [.ref b]) rfl rfl rfl ?_
  obtain ⟨vs2, v1, v2⟩ := Wc.2.2.2.2.2.2.2.2.1
  refine px_vi (as := [.ref b]) (rest := []) rfl rfl (recvT Wc.2.1 rfl) rfl rfl (cx_noh (he := b + 92) Wc.2.1 rfl (by omega) v2 v1 (fun vs3 v3 => ?_))
  have Wd := Wc.heat v3
  have fd : Fr (Pb b) 0 0 hc2 (k4 + 10 + 42) (xset hc2 (b + 92) (100, vs3)) (k4 + 10 + 42) := Fr.set (by omega) (fun q => by unfold Pb at q; omega)
  show Px (some scl) (some scl) 98 62 _ [] (xset hc2 (b + 92) (100, vs3)) (k4 + 10 + 42) Φ
  generalize xset hc2 (b + 92) (100, vs3) = hd2 at *
  refine px_step (pc' := 63) (st' := [.ref b]) rfl rfl rfl ?_
  refine px_gf rfl rfl Wd.2.1 rfl ?_
  refine px_step (pc' := 67) (st' := [.int (all (Int32.ofNat n)), .ref (b + 1)]) rfl rfl rfl ?_
  refine px_step (pc' := 68) (st' := [.int (Int32.ofNat Dn), .int (all (Int32.ofNat n)), .ref (b + 1)]) rfl rfl rfl ?_
  rw [hn] at hA
  refine px_cls (rest := []) rfl rfl rfl rfl rfl rfl Wd.2.2.2.2.2.2.2.2.2 (c_open hn3 hn7 hJ7 hD1 hD5 hA (by rw [hpn]; exact p2) ?_)
  rw [hpn]
  have We := Wd.cls (s' := evS s (all (Int32.ofNat n)) (pnO C J) (Int32.ofNat Dn))
  have fe : Fr (Pb b) 0 0 hd2 (k4 + 10 + 42) (yput hd2 (b + 1) (evS s (all (Int32.ofNat n)) (pnO C J) (Int32.ofNat Dn))) (k4 + 10 + 42) := Fr.ob (by omega) (fun l h1 h2 q => by unfold Pb at q; omega)
  show Px (some scl) (some scl) 98 71 _ [.int (bc6 (pnO C J))] (yput hd2 (b + 1) (evS s (all (Int32.ofNat n)) (pnO C J) (Int32.ofNat Dn))) (k4 + 10 + 42) Φ
  generalize yput hd2 (b + 1) (evS s (all (Int32.ofNat n)) (pnO C J) (Int32.ofNat Dn)) = he2 at *
  refine px_step (pc' := 72) (st' := [.ref b, .int (bc6 (pnO C J))]) rfl rfl rfl ?_
  refine px_gf rfl rfl We.2.1 rfl ?_
  have hp7 : (pnO C J).toBitVec.toNat < 128 := by
    refine Nat.lt_of_lt_of_le p4 ?_
    rw [List.length_map]
    exact Nat.pow_le_pow_right (by decide) hJ7
  have hpe : pnO C J = Int32.ofNat (pnO C J).toBitVec.toNat := p3
  refine px_st (as := [.int (pnO C J)]) (rest := [.int (bc6 (pnO C J))]) rfl rfl rfl rfl rfl ?_
  have hm := cx_many (sd := some scl) (h := he2) (ks := k4 + 10 + 42) (Φ := xbk (some scl) (some scl) 98 78 [(0, .ref b), (1, .int (all (Int32.ofNat n))), (2, .int (Int32.ofNat Dn))] [.int (bc6 (pnO C J))] Φ) hp7
  rw [← hpe] at hm
  refine hm ?_
  show Px (some scl) (some scl) 98 78 _ [.int (bc6 (pnO C J)), .int (bc6 (pnO C J))] he2 (k4 + 10 + 42) Φ
  refine px_icmp rfl rfl (fun hx => ?_) (fun hx => ?_)
  · rw [show xcmp .ne (bc6 (pnO C J)) (bc6 (pnO C J)) = false by simp [xcmp]] at hx
    cases hx
  · refine px_step (pc' := 82) (st' := [.int 1]) rfl rfl rfl ?_
    refine px_step (pc' := 86) (st' := [.int 1]) rfl rfl rfl ?_
    refine px_ret rfl rfl (xex_bool rfl (Or.inr rfl)) (kk he2 _ cl ju _ _ _ We (evS_O hA) ?_)
    exact (f1.trans (f2.trans (f3.trans (f4.pb.trans (f5.trans (f6.trans (f7.trans (f8.trans (f9.pb.trans (fa.trans (fb.pb.trans (fc.trans (fd.trans fe))))))))))))).mono (fun _ _ q => q) (by omega) (by omega)
end YAN
