/-! a final told; a hall is begun -/
section YAO
variable {sd : Option (List Int32)} {scl : List Int32} {μ pc : Nat} {lv : xL} {st : List Value} {h : xH} {ks : Nat} {Φ : xO → Prop}
theorem hd10_tab : ∀ n, n < 8 → ∀ i, i < 10 → hd (all (Int32.ofNat n)) (Int32.ofNat i) = if i < n then 1 else 0 := by decide +kernel
/-- the first numbers -/
def nms : Nat → List Int32
  | 0 => []
  | k + 1 => nms k ++ [Int32.ofNat k]
theorem nms_len (k : Nat) : (nms k).length = k := by
  induction k with
  | zero => rfl
  | succ k ih =>
    show (nms k ++ [Int32.ofNat k]).length = k + 1
    rw [List.length_append, ih]
    rfl
theorem nms_at {k i : Nat} (hi : i < k) : (nms k)[i]? = some (Int32.ofNat i) := by
  induction k with
  | zero => omega
  | succ k ih =>
    show (nms k ++ [Int32.ofNat k])[i]? = _
    by_cases e : i < k
    · rw [List.getElem?_append_left (by rw [nms_len]; exact e)]
      exact ih e
    · have e2 : i = k := by omega
      subst e2
      rw [List.getElem?_append_right (by rw [nms_len]; exact Nat.le_refl _), nms_len, Nat.sub_self]
      rfl
/-- the fields while a final begins -/
abbrev tfB (b D cl ju : Nat) (x P d : Int32) (ou cr fn sh pe : Nat) : List Value := tfs b D cl ju 1 1 x x P d ou (b + 92) cr fn sh pe
theorem lz_fin {b n D cl ju ou cr sh pe L : Nat} {P d : Int32} {C J : List Int32} {s : yS} (hn7 : n < 8) (hL : b + 156 ≤ L) : ∀ (f i q : Nat) (h : xH) (ks : Nat), i + f = 10 → Wg h b (tfB b D cl ju (all (Int32.ofNat n)) P d ou cr q sh pe) cl ju C J s → xget h q = some (100, ivs (nms (min i n))) → L ≤ q → (∀ h' ks' q', Wg h' b (tfB b D cl ju (all (Int32.ofNat n)) P d ou cr q' sh pe) cl ju C J s → xget h' q' = some (100, ivs (nms n)) → L ≤ q' → Fr (Pb b) f (10 * f) h ks h' ks' → Px (some scl) (some scl) 106 49 [(1, .int (Int32.ofNat 10)), (0, .ref b)] [] h' ks' Φ) → Px (some scl) (some scl) 106 14 [(1, .int (Int32.ofNat i)), (0, .ref b)] [] h ks Φ := by
  intro f
  induction f with
  | zero =>
    intro i q h ks hi hW hq hqb kk
    have e : i = 10 := by omega
    subst e
    refine px_step (pc' := 15) (st' := [.int (Int32.ofNat 10)]) rfl rfl rfl ?_
    refine px_step (pc' := 17) (st' := [.int (Int32.ofNat 10), .int (Int32.ofNat 10)]) rfl rfl rfl ?_
    rw [Nat.min_eq_right (by omega)] at hq
    exact px_icmp rfl rfl (fun hb => kk h ks q hW hq hqb Fr.refl) (fun hb => by cases hb)
  | succ f ih =>
    intro i q h ks hi hW hq hqb kk
    have hbb := hW.1
    refine px_step (pc' := 15) (st' := [.int (Int32.ofNat i)]) rfl rfl rfl ?_
    refine px_step (pc' := 17) (st' := [.int (Int32.ofNat 10), .int (Int32.ofNat i)]) rfl rfl rfl ?_
    refine px_icmp rfl rfl (fun hb => ?_) (fun hb => ?_)
    · have hb := xT (xc_ge _ _) hb
      rw [i32_to (by omega), i32_to (by omega)] at hb
      omega
    have hnx : ∀ {h' : xH} {k' q' : Nat}, Wg h' b (tfB b D cl ju (all (Int32.ofNat n)) P d ou cr q' sh pe) cl ju C J s → xget h' q' = some (100, ivs (nms (min (i + 1) n))) → L ≤ q' → Fr (Pb b) 1 10 h ks h' k' → Px (some scl) (some scl) 106 43 [(1, .int (Int32.ofNat i)), (0, .ref b)] [] h' k' Φ := fun {h' k' q'} w1 w2 w3 w4 => by
      refine px_step (pc' := 46) (lv' := [(1, .int (Int32.ofNat (i + 1))), (0, .ref b)]) (st' := []) (h' := h') (ks' := k') rfl rfl (by rw [← i32_s]; rfl) ?_
      refine px_step (pc' := 14) (st' := []) rfl rfl rfl ?_
      exact ih (i + 1) q' h' k' (by omega) w1 w2 w3 (fun h2 k2 q2 v1 v2 v3 v4 => kk h2 k2 q2 v1 v2 v3 ((w4.trans v4).mono (fun _ _ q => q) (by omega) (by omega)))
    refine px_step (pc' := 21) (st' := [.ref b]) rfl rfl rfl ?_
    refine px_gf rfl rfl hW.2.1 rfl ?_
    refine px_step (pc' := 25) (st' := [.int (Int32.ofNat i), .int (all (Int32.ofNat n))]) rfl rfl rfl ?_
    refine px_st (as := [.int (all (Int32.ofNat n)), .int (Int32.ofNat i)]) (rest := []) rfl rfl rfl rfl rfl ?_
    have hx := hd10_tab n hn7 i (by omega)
    obtain ⟨t1, t2⟩ := all_tab n hn7
    have hh := cx_has (sd := some scl) (h := h) (ks := ks) (k := i) (Φ := xbk (some scl) (some scl) 106 28 [(1, .int (Int32.ofNat i)), (0, .ref b)] [] Φ) t2 (by omega)
    rw [← t1] at hh
    refine hh ?_
    show Px (some scl) (some scl) 106 28 _ [.int (hd (all (Int32.ofNat n)) (Int32.ofNat i))] h ks Φ
    rw [hx]
    by_cases e : i < n
    · rw [if_pos e]
      refine px_if rfl rfl (fun hb => by cases hb) (fun hb => ?_)
      refine px_step (pc' := 32) (st' := [.ref b]) rfl rfl rfl ?_
      refine px_step (pc' := 33) (st' := [.ref b, .ref b]) rfl rfl rfl ?_
      refine px_gf rfl rfl hW.2.1 rfl ?_
      refine px_step (pc' := 37) (st' := [.int (Int32.ofNat i), .ref q, .ref b]) rfl rfl rfl ?_
      have hl : (nms (min i n)).length < 1000 := by rw [nms_len]; omega
      refine px_st (rest := [.ref b]) rfl rfl rfl rfl rfl (cx_plus hq hl ?_)
      have f1 : Fr Pt 1 10 h ks (h ++ [(100, ivs (nms (min i n) ++ [Int32.ofNat i]))]) (ks + ((nms (min i n)).length + 1)) := Fr.app (Nat.le_refl _) (by rw [nms_len]; omega)
      have W1 := hW.old f1
      have hnew : xget (h ++ [(100, ivs (nms (min i n) ++ [Int32.ofNat i]))]) (h.length + 4) = some (100, ivs (nms (min i n) ++ [Int32.ofNat i])) := xapp_new h _ 0
      have hlb := (xget_lt hW.2.1).2
      have hob := hW.2.2.2.2.2.2.2.2.2.1.2
      show Px (some scl) (some scl) 106 40 _ [.ref (h.length + 4), .ref b] (h ++ [(100, ivs (nms (min i n) ++ [Int32.ofNat i]))]) (ks + ((nms (min i n)).length + 1)) Φ
      refine px_pfW rfl rfl rfl W1 (Nat.le_of_ble_eq_true rfl) rfl rfl rfl (fun h2 W2 f2 => ?_)
      refine hnx (q' := h.length + 4) W2 ?_ (by have := (xget_lt hq).2; omega) ((f1.pb.trans f2).mono (fun _ _ q => q) (by omega) (by omega))
      rw [f2.kp (xget_lt hnew).2 (Or.inr (by have := (xget_lt hq).2; omega)), hnew, show min (i + 1) n = i + 1 by omega, show min i n = i by omega]
      rfl
    · rw [if_neg e]
      refine px_if rfl rfl (fun hb => ?_) (fun hb => by cases hb)
      refine hnx hW ?_ hqb Fr.refl
      rw [show min (i + 1) n = min i n by omega]
      exact hq
/-- a told hall in its final: what the law reads of it -/
def Wf (h : xH) (b : Nat) (F : List Value) (n D J : Nat) (P : Int32) (cl jc m : Nat → Int32) : Prop := ∃ s, 4 ≤ b ∧ xget h b = some (10, F) ∧ Ob h (b + 1) s ∧ finF s n D J P cl jc m
set_option maxHeartbeats 2000000 in
theorem cw_begi {b D n Dn cl ju ou cr : Nat} {P : Int32} {C J : List Int32} {s : yS} (hn7 : n ≤ 7) (hDn : Dn ≤ 5) (hbz : b + 156 ≤ h.length + 4) (hW : Wg h b (tfs b D cl ju 1 0 (all (Int32.ofNat n)) (all (Int32.ofNat n)) P (Int32.ofNat Dn) ou (b + 92) cr (b + 101) (b + 102) (b + 145)) cl ju C J s) (hI : inO s n Dn J.length P (lf C) (lf J))
    (kk : ∀ h' ks' fn sh pe T, Wg h' b (tfB b D cl ju (all (Int32.ofNat n)) P (Int32.ofNat Dn) ou cr fn sh pe) cl ju C J T → finF T n Dn J.length P (lf C) (lf J) (fun _ => 0) → xget h' fn = some (100, ivs (nms n)) → h.length + 4 ≤ fn → h.length + 4 ≤ sh → (∀ k, k < 43 → xget h' (sh + k) = (xmk3 7 5 0 sh)[k]?) → fn < sh → Fr (Pb b) 70 400 h ks h' ks' → Φ (none, some (.int 1), h', ks')) : Qx (some scl) 106 [.ref b] h ks Φ := by
  refine Qx.of (Or.inl rfl) (Nat.le_of_ble_eq_true rfl) ?_
  refine px_step (pc' := 1) (lv' := [(0, .ref b)]) (st' := [.ref b]) rfl rfl rfl ?_
  refine px_step (pc' := 2) (st' := [.int 1, .ref b]) rfl rfl rfl ?_
  refine px_pfW rfl rfl rfl hW (Nat.le_of_ble_eq_true rfl) rfl rfl rfl (fun h1 W1 f1 => ?_)
  refine px_step (pc' := 6) (st' := [.ref b]) rfl rfl rfl ?_
  refine px_step (pc' := 7) (st' := [.int (Int32.ofNat 0), .ref b]) rfl rfl rfl ?_
  refine px_new1 (A := 1) (B := 0) rfl (by decide) W1 (Nat.le_refl _) (Nat.le_refl _) (fun h2 W2 g2 f2 => ?_)
  refine px_pfW rfl rfl rfl W2 (Nat.le_of_ble_eq_true rfl) rfl rfl rfl (fun h3 W3 f3 => ?_)
  refine px_step (pc' := 13) (st' := [.int (Int32.ofNat 0)]) rfl rfl rfl ?_
  refine px_step (pc' := 14) (lv' := [(1, .int (Int32.ofNat 0)), (0, .ref b)]) (st' := []) rfl rfl rfl ?_
  have l1 := f1.le
  have g3 : xget h3 (h1.length + 4) = some (100, ivs (nms (min 0 n))) := by
    rw [f3.kp (xget_lt g2).2 (Or.inr (by omega)), g2, Nat.zero_min]
    rfl
  refine lz_fin (L := h.length + 4) (by omega) hbz 10 0 (h1.length + 4) h3 _ rfl W3 g3 (by omega) (fun h4 k4 fn W4 g4 q4 f4 => ?_)
  have l2 := f2.le
  have l3 := f3.le
  have l4 := f4.le
  refine px_step (pc' := 50) (st' := [.ref b]) rfl rfl rfl ?_
  refine px_step (pc' := 52) (st' := [.int (Int32.ofNat 7), .ref b]) rfl rfl rfl ?_
  refine px_step (pc' := 53) (st' := [.int (Int32.ofNat 5), .int (Int32.ofNat 7), .ref b]) rfl rfl rfl ?_
  refine px_step (pc' := 54) (st' := [.int (Int32.ofNat 0), .int (Int32.ofNat 5), .int (Int32.ofNat 7), .ref b]) rfl rfl rfl ?_
  refine px_mulW (A := 43) (B := 42) (sl := 42) (es := xmk3 7 5 0 (h4.length + 4)) rfl rfl W4 (Nat.le_of_ble_eq_true rfl) (Nat.le_refl _) (fun h5 W5 g5 f5 => ?_)
  refine px_pfW rfl rfl rfl W5 (Nat.le_of_ble_eq_true rfl) rfl rfl rfl (fun h6 W6 f6 => ?_)
  refine px_step (pc' := 62) (st' := [.ref b]) rfl rfl rfl ?_
  refine px_step (pc' := 64) (st' := [.int (Int32.ofNat 10), .ref b]) rfl rfl rfl ?_
  refine px_step (pc' := 65) (st' := [.int (Int32.ofNat 5), .int (Int32.ofNat 10), .ref b]) rfl rfl rfl ?_
  refine px_mulW (A := 11) (B := 60) (sl := 60) (es := xmk2 2 10 5 (h6.length + 4)) rfl rfl W6 (Nat.le_of_ble_eq_true rfl) (Nat.le_refl _) (fun h7 W7 g7 f7 => ?_)
  refine px_pfW rfl rfl rfl W7 (Nat.le_of_ble_eq_true rfl) rfl rfl rfl (fun h8 W8 f8 => ?_)
  have fA : Fr (Pb b) 54 102 h4 k4 h8 (k4 + 42 + 60) := (f5.pb.trans (f6.trans (f7.pb.trans f8))).mono (fun _ _ q => q) (by omega) (by omega)
  have g8 : xget h8 fn = some (100, ivs (nms n)) := (fA.kp (xget_lt g4).2 (Or.inr (by omega))).trans g4
  have hl5 : h4.length + 43 ≤ h5.length := by
    have hz := g5 42
    rw [show (xmk3 7 5 0 (h4.length + 4))[42]? = some (100, []) from rfl] at hz
    have := (xget_lt hz).2
    omega
  have gs : ∀ k, k < 43 → xget h8 (h4.length + 4 + k) = (xmk3 7 5 0 (h4.length + 4))[k]? := fun k hk => by
    have fB : Fr (Pb b) 54 102 h5 (k4 + 42) h8 (k4 + 42 + 60) := (f6.trans (f7.pb.trans f8)).mono (fun _ _ q => q) (by omega) (by omega)
    rw [fB.kp (by omega) (Or.inr (by omega))]
    exact g5 k
  have hfn := (xget_lt g4).2
  refine px_step (pc' := 73) (st' := [.ref b]) rfl rfl rfl ?_
  refine px_gf rfl rfl W8.2.1 rfl ?_
  obtain ⟨i1, i2, i3, i4, i5, i6, i7, i8, i9, ia, ib, ic⟩ := hI
  refine px_cls (rest := []) rfl rfl rfl rfl rfl rfl W8.2.2.2.2.2.2.2.2.2 (c_begi hn7 hDn i5 i6 i8 ia (fun T t1 t2 t3 t4 t5 t6 t7 t8 t9 => ?_))
  have W9 := W8.cls (s' := T)
  have hob := W8.1
  have f9 : Fr (Pb b) 0 0 h8 (k4 + 42 + 60) (yput h8 (b + 1) T) (k4 + 42 + 60) := Fr.ob (by omega) (fun l h1 h2 q => by unfold Pb at q; omega)
  show Px (some scl) (some scl) 106 79 _ [.int (Int32.ofNat n)] (yput h8 (b + 1) T) (k4 + 42 + 60) Φ
  generalize yput h8 (b + 1) T = h9 at *
  have g9 : xget h9 fn = some (100, ivs (nms n)) := (f9.kp (xget_lt g8).2 (Or.inr (by omega))).trans g8
  refine px_step (pc' := 80) (st' := [.ref b, .int (Int32.ofNat n)]) rfl rfl rfl ?_
  refine px_gf rfl rfl W9.2.1 rfl ?_
  refine px_al rfl g9 (by decide) ?_
  rw [show (ivs (nms n)).length = n by rw [List.length_map, nms_len]]
  refine px_icmp rfl rfl (fun hx => ?_) (fun hx => ?_)
  · rw [show xcmp .ne (Int32.ofNat n) (Int32.ofNat n) = false by simp [xcmp]] at hx
    cases hx
  · refine px_step (pc' := 88) (st' := [.int 1]) rfl rfl rfl ?_
    refine px_step (pc' := 92) (st' := [.int 1]) rfl rfl rfl ?_
    refine px_ret rfl rfl (xex_bool rfl (Or.inr rfl)) (kk h9 _ fn (h4.length + 4) _ T W9 ⟨?_, t7, t9, ?_⟩ g9 q4 (by omega) ?_ (by omega) ?_)
    · have z : ∀ k, k < 30 → k ≠ 0 → k ≠ 25 → k ≠ 27 → k ≠ 29 → k ≠ 1 → k ≠ 3 → k ≠ 10 → k ≠ 12 → k ≠ 15 → k ≠ 17 → T k = sg0 k := fun k z1 z2 z3 z4 z5 z6 z7 z8 z9 za zb => (t1 k z1 z2 z3 z4 z5).trans (i5 k z6 z7 z8 z9 za zb)
      have y : ∀ k, k < 30 → k ≠ 0 → k ≠ 25 → k ≠ 27 → k ≠ 29 → T k = s k := t1
      unfold inB
      rw [y 1 (by decide) (by decide) (by decide) (by decide) (by decide), y 3 (by decide) (by decide) (by decide) (by decide) (by decide), y 10 (by decide) (by decide) (by decide) (by decide) (by decide), y 12 (by decide) (by decide) (by decide) (by decide) (by decide), y 15 (by decide) (by decide) (by decide) (by decide) (by decide), y 17 (by decide) (by decide) (by decide) (by decide) (by decide), z 5 (by decide) (by decide) (by decide) (by decide) (by decide) (by decide) (by decide) (by decide) (by decide) (by decide) (by decide), z 7 (by decide) (by decide) (by decide) (by decide) (by decide) (by decide) (by decide) (by decide) (by decide) (by decide) (by decide), z 9 (by decide) (by decide) (by decide) (by decide) (by decide) (by decide) (by decide) (by decide) (by decide) (by decide) (by decide), z 14 (by decide) (by decide) (by decide) (by decide) (by decide) (by decide) (by decide) (by decide) (by decide) (by decide) (by decide), z 18 (by decide) (by decide) (by decide) (by decide) (by decide) (by decide) (by decide) (by decide) (by decide) (by decide) (by decide), z 20 (by decide) (by decide) (by decide) (by decide) (by decide) (by decide) (by decide) (by decide) (by decide) (by decide) (by decide), z 22 (by decide) (by decide) (by decide) (by decide) (by decide) (by decide) (by decide) (by decide) (by decide) (by decide) (by decide)]
      exact ⟨t3, t4.trans (congrFun (i5 0 (by decide) (by decide) (by decide) (by decide) (by decide) (by decide)) 8), i1, i2, fun _ _ => rfl, fun _ _ => rfl, fun _ _ => rfl, i3, i4, fun _ _ => rfl, i6, i7, i8, i9, ia, ib, ic, rfl, fun _ _ => rfl, fun j hj => if_pos ⟨rfl, hj⟩, t5, t6, t8⟩
    · intro R hR
      rw [t2 67 (by decide), i5 67 (by decide) (by decide) (by decide) (by decide) (by decide) (by decide)]
      rfl
    · intro k hk
      have hs8 := gs k hk
      rw [f9.kp (by have := f6.le; have := f7.le; have := f8.le; omega) (Or.inr (by omega))]
      exact hs8
    · exact (f1.trans (f2.pb.trans (f3.trans (f4.trans (fA.trans f9))))).mono (fun _ _ q => q) (by omega) (by omega)
end YAO
