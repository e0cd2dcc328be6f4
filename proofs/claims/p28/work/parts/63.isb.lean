/-! a hall is begun -/
section YAP
variable {sd : Option (List Int32)} {scl : List Int32} {μ pc : Nat} {lv : xL} {st : List Value} {h : xH} {ks : Nat} {Φ : xO → Prop}
def nnN (scl : List Int32) (D : Nat) : Nat := 3 + drw scl D 4
def ccC (scl : List Int32) (D : Nat) : List Int32 := fcl scl (nnN scl D) (D + 1) []
def jjJ (scl : List Int32) (D : Nat) : List Int32 := (fju scl 8 0 (D + 1 + nnN scl D) []).1
def e2D (scl : List Int32) (D : Nat) : Nat := (fju scl 8 0 (D + 1 + nnN scl D) []).2
def ddD (scl : List Int32) (D : Nat) : Nat := 1 + drw scl (e2D scl D) 2
def ppP (scl : List Int32) (D : Nat) : Int32 := pnO (ccC scl D) (jjJ scl D)
theorem nnN_b {D : Nat} : 3 ≤ nnN scl D ∧ nnN scl D ≤ 6 := by
  have : drw scl D 4 < 4 := drw_lt (by decide)
  unfold nnN
  omega
theorem ddD_b {D : Nat} : 1 ≤ ddD scl D ∧ ddD scl D ≤ 2 := by
  have : drw scl (e2D scl D) 2 < 2 := drw_lt (by decide)
  unfold ddD
  omega
theorem cc_len {D : Nat} : (ccC scl D).length = nnN scl D := by
  unfold ccC
  rw [fcl_len]
  exact Nat.zero_add _
theorem cc_mem {D : Nat} : ∀ v ∈ ccC scl D, ∃ a, a < 3 ∧ v = Int32.ofNat a := fcl_mem _ _ [] (fun v hv => by cases hv)
theorem jj_ok {D : Nat} : (jjJ scl D).length ≤ 7 ∧ 3 ≤ (jjJ scl D).length ∧ e2D scl D ≤ D + 1 + nnN scl D + 2 * 8 + 1 ∧ ∀ i, i < (jjJ scl D).length → ∃ a, a < 6 ∧ (jjJ scl D)[i]? = some (Int32.ofNat a) ∧ (i < 3 → 3 ≤ a) := fju_ok 8 0 _ [] rfl (by decide) (fun _ => rfl) (fun q => absurd q (by decide)) (fun i hi => absurd hi (Nat.not_lt_zero _))
theorem jj_mem {D : Nat} : ∀ v ∈ jjJ scl D, ∃ a, a < 6 ∧ v = Int32.ofNat a := fun v hv => by
  obtain ⟨i, hi, he⟩ := List.getElem_of_mem hv
  obtain ⟨a, a1, a2, _⟩ := jj_ok.2.2.2 i hi
  rw [List.getElem?_eq_getElem hi, he] at a2
  exact ⟨a, a1, Option.some.inj a2⟩
theorem isB_free {C : List Int32} {a : Nat} (hC : ∀ v ∈ C, ∃ a, a < 3 ∧ v = Int32.ofNat a) (h3 : 3 ≤ a) (h6 : a < 6) : isB C (Int32.ofNat a) = true := by
  unfold isB
  rw [List.all_eq_true]
  intro v hv
  obtain ⟨c, c1, c2⟩ := hC v hv
  rw [c2, decide_eq_false (fun q => by have := (of6_tab c (by omega) a h6).mp q; omega)]
  rfl
theorem jj_fl {D : Nat} : ∃ r, (jjJ scl D).map (isB (ccC scl D)) = true :: true :: true :: r := by
  obtain ⟨h1, h2, _, h4⟩ := jj_ok (scl := scl) (D := D)
  generalize jjJ scl D = J at *
  match J, h2, h4 with
  | [], h2, _ => exact absurd h2 (by decide)
  | [_], h2, _ => exact absurd h2 (by simp)
  | [_, _], h2, _ => exact absurd h2 (by simp)
  | x :: y :: z :: r, h2, h4 =>
    obtain ⟨a, a1, a2, a3⟩ := h4 0 (by simp)
    obtain ⟨b, b1, b2, b3⟩ := h4 1 (by simp)
    obtain ⟨c, c1, c2, c3⟩ := h4 2 (by simp)
    have ea : x = Int32.ofNat a := Option.some.inj a2
    have eb : y = Int32.ofNat b := Option.some.inj b2
    have ec : z = Int32.ofNat c := Option.some.inj c2
    refine ⟨r.map (isB (ccC scl D)), ?_⟩
    show isB (ccC scl D) x :: isB (ccC scl D) y :: isB (ccC scl D) z :: r.map (isB (ccC scl D)) = _
    rw [ea, eb, ec, isB_free cc_mem (a3 (by decide)) a1, isB_free cc_mem (b3 (by decide)) b1, isB_free cc_mem (c3 (by decide)) c1]
/-- a told hall in its final, as the law finds it -/
def Wz (scl : List Int32) (D0 L : Nat) (h : xH) (b fn sh : Nat) : Prop := ∃ (cl ju ou cr pe : Nat) (T : yS), Wg h b (tfB b (e2D scl D0 + 1) cl ju (all (Int32.ofNat (nnN scl D0))) (ppP scl D0) (Int32.ofNat (ddD scl D0)) ou cr fn sh pe) cl ju (ccC scl D0) (jjJ scl D0) T ∧ finF T (nnN scl D0) (ddD scl D0) (jjJ scl D0).length (ppP scl D0) (lf (ccC scl D0)) (lf (jjJ scl D0)) (fun _ => 0) ∧ xget h fn = some (100, ivs (nms (nnN scl D0))) ∧ L ≤ fn ∧ fn < sh ∧ ∀ k, k < 43 → xget h (sh + k) = (xmk3 7 5 0 sh)[k]?
set_option maxHeartbeats 1000000 in
theorem cw_isb {b D : Nat} (hs : scl.length < 100000) (hD : D < 8000) (hbz : b + 156 ≤ h.length + 4) (hW : Wa h b D [] []) (kk : ∀ h' ks' fn sh, Wz scl D (h.length + 4) h' b fn sh → Fr (Pb b) 200 1000 h ks h' ks' → Φ (none, some (.int 1), h', ks')) : Qx (some scl) 88 [.ref b] h ks Φ := by
  obtain ⟨n1, n2⟩ := nnN_b (scl := scl) (D := D)
  obtain ⟨d1, d2⟩ := ddD_b (scl := scl) (D := D)
  obtain ⟨j1, j2, j3, j4⟩ := jj_ok (scl := scl) (D := D)
  obtain ⟨r, hr⟩ := jj_fl (scl := scl) (D := D)
  refine Qx.of (Or.inl rfl) (Nat.le_of_ble_eq_true rfl) ?_
  refine px_step (pc' := 1) (lv' := [(0, .ref b)]) (st' := [.ref b]) rfl rfl rfl ?_
  refine px_step (pc' := 2) (st' := [.int 3, .ref b]) rfl rfl rfl ?_
  refine px_step (pc' := 3) (st' := [.ref b, .int 3, .ref b]) rfl rfl rfl ?_
  refine px_step (pc' := 4) (st' := [.int (Int32.ofNat 4), .ref b, .int 3, .ref b]) rfl rfl rfl ?_
  refine px_vi (as := [.ref b, .int (Int32.ofNat 4)]) (rest := [.int 3, .ref b]) rfl rfl (hW.recv rfl) rfl rfl (cw_draw (by omega) (by decide) (by decide) hs hW (fun h1 hW1 f1 => ?_))
  show Px (some scl) (some scl) 88 7 _ [.int (Int32.ofNat (drw scl D 4)), .int 3, .ref b] h1 ks Φ
  refine px_step (pc' := 8) (st' := [.int (Int32.ofNat (nnN scl D)), .ref b]) rfl rfl (by unfold nnN; rw [Int32.ofNat_add]; rfl) ?_
  refine px_vi (as := [.ref b, .int (Int32.ofNat (nnN scl D))]) (rest := []) rfl rfl (hW1.recv rfl) rfl rfl (cw_foun (by omega) hs (by omega) hW1 (fun h2 k2 hW2 f2 => ?_))
  have hW2 : Wa h2 b (e2D scl D) (ccC scl D) (jjJ scl D) := hW2
  show Px (some scl) (some scl) 88 11 _ [.int 1] h2 k2 Φ
  refine px_if rfl rfl (fun hb => by cases hb) (fun hb => ?_)
  refine px_step (pc' := 15) (st' := [.ref b]) rfl rfl rfl ?_
  refine px_step (pc' := 16) (st' := [.int 1, .ref b]) rfl rfl rfl ?_
  refine px_step (pc' := 17) (st' := [.ref b, .int 1, .ref b]) rfl rfl rfl ?_
  have hW2' := hW2
  obtain ⟨cl, ju, vs, s, hb4, hg, c1, c2, hc, _⟩ := hW2'
  refine px_gf rfl rfl hg rfl ?_
  refine px_al rfl hc (by decide) ?_
  rw [show (ivs (ccC scl D)).length = nnN scl D by rw [List.length_map, cc_len]]
  refine px_step (pc' := 22) (st' := [.int (1 <<< (Int32.ofNat (nnN scl D) &&& 31)), .ref b]) rfl rfl rfl ?_
  refine px_step (pc' := 23) (st' := [.int 1, .int (1 <<< (Int32.ofNat (nnN scl D) &&& 31)), .ref b]) rfl rfl rfl ?_
  refine px_step (pc' := 24) (st' := [.int (all (Int32.ofNat (nnN scl D))), .ref b]) rfl rfl rfl ?_
  refine px_step (pc' := 25) (st' := [.int 1, .int (all (Int32.ofNat (nnN scl D))), .ref b]) rfl rfl rfl ?_
  refine px_step (pc' := 26) (st' := [.ref b, .int 1, .int (all (Int32.ofNat (nnN scl D))), .ref b]) rfl rfl rfl ?_
  refine px_step (pc' := 27) (st' := [.int (Int32.ofNat 2), .ref b, .int 1, .int (all (Int32.ofNat (nnN scl D))), .ref b]) rfl rfl rfl ?_
  refine px_vi (as := [.ref b, .int (Int32.ofNat 2)]) (rest := [.int 1, .int (all (Int32.ofNat (nnN scl D))), .ref b]) rfl rfl (hW2.recv rfl) rfl rfl (cw_draw (by omega) (by decide) (by decide) hs hW2 (fun h3 hW3 f3 => ?_))
  show Px (some scl) (some scl) 88 30 _ [.int (Int32.ofNat (drw scl (e2D scl D) 2)), .int 1, .int (all (Int32.ofNat (nnN scl D))), .ref b] h3 k2 Φ
  refine px_step (pc' := 31) (st' := [.int (Int32.ofNat (ddD scl D)), .int (all (Int32.ofNat (nnN scl D))), .ref b]) rfl rfl (by unfold ddD; rw [Int32.ofNat_add]; rfl) ?_
  refine px_vi (as := [.ref b, .int (all (Int32.ofNat (nnN scl D))), .int (Int32.ofNat (ddD scl D))]) (rest := []) rfl rfl (hW3.recv rfl) rfl rfl (cw_open cc_len n1 (by omega) j1 d1 (by omega) (fun v hv => by obtain ⟨a, a1, a2⟩ := cc_mem v hv; exact ⟨a, by omega, a2⟩) jj_mem hr hW3 (fun h4 k4 cl ju ou cr s4 W4 I4 f4 => ?_))
  show Px (some scl) (some scl) 88 34 _ [.int 1] h4 k4 Φ
  refine px_if rfl rfl (fun hb => by cases hb) (fun hb => ?_)
  refine px_step (pc' := 38) (st' := [.ref b]) rfl rfl rfl ?_
  have l1 := f1.le
  have l2 := f2.le
  have l3 := f3.le
  have l4 := f4.le
  refine px_vi (as := [.ref b]) (rest := []) rfl rfl (recvT W4.2.1 rfl) rfl rfl (cw_begi (by omega) (by omega) (by omega) W4 I4 (fun h5 k5 fn sh pe T W5 F5 g5 q1 q2 gs q3 f5 => ?_))
  show Px (some scl) (some scl) 88 41 _ [.int 1] h5 k5 Φ
  refine px_if rfl rfl (fun hb => by cases hb) (fun hb => ?_)
  refine px_step (pc' := 45) (st' := [.int 1]) rfl rfl rfl ?_
  refine px_step (pc' := 49) (st' := [.int 1]) rfl rfl rfl ?_
  refine px_ret rfl rfl (xex_bool rfl (Or.inr rfl)) (kk h5 k5 fn sh ⟨cl, ju, ou, cr, pe, T, W5, F5, g5, by omega, q3, gs⟩ ?_)
  exact (f1.trans (f2.trans (f3.trans (f4.trans f5)))).mono (fun _ _ q => q) (by omega) (by omega)
end YAP
