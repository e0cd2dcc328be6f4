/-! who wins, as the law asks it -/
section YBA
variable {sd : Option (List Int32)} {scl : List Int32} {μ pc : Nat} {lv : xL} {st : List Value} {h : xH} {ks : Nat} {Φ : xO → Prop}
variable {n D J : Nat} {P : Int32} {cl jc m : Nat → Int32} {s : yS} {EP : Nat → Int32}
theorem wls_ok {a0 : Int32} : ∀ i, (∀ q, q < i → (itf (wls EP) i a0).toInt ≤ (EP q).toInt) ∧ (itf (wls EP) i a0 = a0 ∨ ∃ q, q < i ∧ itf (wls EP) i a0 = EP q) := by
  intro i
  induction i with
  | zero => exact ⟨fun q hq => by omega, Or.inl rfl⟩
  | succ i ih =>
    obtain ⟨h1, h2⟩ := ih
    have e : itf (wls EP) (i + 1) a0 = wls EP i (itf (wls EP) i a0) := rfl
    rw [e, wls_eq]
    by_cases hlt : EP i < itf (wls EP) i a0
    · rw [if_pos hlt]
      have hl := Int32.lt_iff_toInt_lt.mp hlt
      refine ⟨fun q hq => ?_, Or.inr ⟨i, by omega, rfl⟩⟩
      by_cases e2 : q = i
      · rw [e2]
        exact Int.le_refl _
      · have := h1 q (by omega)
        omega
    · rw [if_neg hlt]
      have hl : ¬ (EP i).toInt < (itf (wls EP) i a0).toInt := fun z => hlt (Int32.lt_iff_toInt_lt.mpr z)
      refine ⟨fun q hq => ?_, h2.imp id (fun ⟨q, q1, q2⟩ => ⟨q, by omega, q2⟩)⟩
      by_cases e2 : q = i
      · rw [e2]
        omega
      · exact h1 q (by omega)
theorem wls_99 {n : Nat} (hq : ∃ q, q < n ∧ (EP q).toInt ≤ 8) : itf (wls EP) n (Int32.ofNat 99) = wnl EP n := by
  unfold wnl
  obtain ⟨q, q1, q2⟩ := hq
  obtain ⟨a1, a2⟩ := wls_ok (EP := EP) (a0 := Int32.ofNat 99) n
  obtain ⟨b1, b2⟩ := wls_ok (EP := EP) (a0 := 16) n
  have a3 := a1 q q1
  have b3 := b1 q q1
  rcases a2 with e | ⟨x, x1, x2⟩
  · rw [e, i32_to (by decide)] at a3
    omega
  · rcases b2 with e | ⟨y, y1, y2⟩
    · rw [e, show (16 : Int32).toInt = 16 from rfl] at b3
      omega
    · have c1 := a1 y y1
      have c2 := b1 x x1
      rw [← y2] at c1
      rw [← x2] at c2
      exact Int32.toInt_inj.mp (by omega)
def sws (EP : Nat → Int32) (least : Int32) (i : Nat) (a : Int32) : Int32 := bif xcmp .ne (EP i) least then a + Int32.ofNat 0 else a + (1 <<< (Int32.ofNat i &&& 31))
theorem bit_tab : ∀ i, i < 7 → ∀ M, M < 2 ^ i → (Int32.ofNat M ||| (1 <<< (Int32.ofNat i &&& 31))) = Int32.ofNat (M + 2 ^ i) ∧ (Int32.ofNat M + (1 <<< (Int32.ofNat i &&& 31))) = Int32.ofNat (M + 2 ^ i) := by decide +kernel
theorem sws_ok {l : Int32} {n : Nat} (hn : n ≤ 7) : itf (sws EP l) n 0 = itf (wws EP l) n 0 := by
  have key : ∀ i, i ≤ n → ∃ M, M < 2 ^ i ∧ itf (wws EP l) i 0 = Int32.ofNat M ∧ itf (sws EP l) i 0 = Int32.ofNat M := by
    intro i
    induction i with
    | zero => exact fun _ => ⟨0, by decide, rfl, rfl⟩
    | succ i ih =>
      intro hi
      obtain ⟨M, m1, m2, m3⟩ := ih (by omega)
      obtain ⟨t1, t2⟩ := bit_tab i (by omega) M m1
      have e1 : itf (wws EP l) (i + 1) 0 = wws EP l i (itf (wws EP l) i 0) := rfl
      have e2 : itf (sws EP l) (i + 1) 0 = sws EP l i (itf (sws EP l) i 0) := rfl
      rw [e1, e2, wws_eq, m2, m3]
      unfold sws
      cases xcmp .ne (EP i) l with
      | true => exact ⟨M, by rw [Nat.pow_succ]; omega, rfl, Int32.add_zero _⟩
      | false => exact ⟨M + 2 ^ i, by rw [Nat.pow_succ]; omega, t1, t2⟩
  obtain ⟨M, m1, m2, m3⟩ := key n (Nat.le_refl _)
  rw [m2, m3]
theorem nms_iv {n i : Nat} (hi : i < n) : (ivs (nms n))[i]? = some (.int (Int32.ofNat i)) := by
  rw [List.getElem?_map, nms_at hi]
  rfl
theorem nms_ln (n : Nat) : (ivs (nms n)).length = n := by rw [List.length_map, nms_len]
theorem lz_w1 {x q : Nat} {least : Int32} (hn : n ≤ 7) (hF : finF s n D J P cl jc m) (hO : Ob h x s) (hg : xget h q = some (100, ivs (nms n))) (kk : Px (some scl) (some scl) 110 48 [(0, .ref x), (1, .ref q), (2, .int (itf (wls (EPf n D (ef 0 m))) n (Int32.ofNat 99))), (3, .int (Int32.ofNat 0))] [] h ks Φ) : ∀ m9 i : Nat, i + m9 = n → Px (some scl) (some scl) 110 16 [(0, .ref x), (1, .ref q), (2, .int (itf (wls (EPf n D (ef 0 m))) i (Int32.ofNat 99))), (3, .int (Int32.ofNat 0)), (4, .ref q), (5, .int (Int32.ofNat n)), (6, .int (Int32.ofNat i))] [] h ks Φ := by
  intro m9
  induction m9 with
  | zero =>
    intro i hi
    have e : i = n := by omega
    subst e
    refine px_run 2 (pc' := 20) (lv' := [(0, .ref x), (1, .ref q), (2, .int (itf (wls (EPf i D (ef 0 m))) i (Int32.ofNat 99))), (3, .int (Int32.ofNat 0)), (4, .ref q), (5, .int (Int32.ofNat i)), (6, .int (Int32.ofNat i))]) (st' := [.int (Int32.ofNat i), .int (Int32.ofNat i)]) rfl ?_
    refine px_icmp rfl rfl (fun hb => ?_) (fun hb => ?_)
    · refine px_sel [0, 1, 2, 3] rfl ?_
      exact kk
    · have hb := xN (xc_ge _ _) hb
      omega
  | succ m9 ih =>
    intro i hi
    refine px_run 2 (pc' := 20) (lv' := [(0, .ref x), (1, .ref q), (2, .int (itf (wls (EPf n D (ef 0 m))) i (Int32.ofNat 99))), (3, .int (Int32.ofNat 0)), (4, .ref q), (5, .int (Int32.ofNat n)), (6, .int (Int32.ofNat i))]) (st' := [.int (Int32.ofNat n), .int (Int32.ofNat i)]) rfl ?_
    refine px_icmp rfl rfl (fun hb => ?_) (fun hb => ?_)
    · have hb := xT (xc_ge _ _) hb
      rw [i32_to (by omega), i32_to (by omega)] at hb
      omega
    refine px_run 2 (pc' := 27) (lv' := [(0, .ref x), (1, .ref q), (2, .int (itf (wls (EPf n D (ef 0 m))) i (Int32.ofNat 99))), (3, .int (Int32.ofNat 0)), (4, .ref q), (5, .int (Int32.ofNat n)), (6, .int (Int32.ofNat i))]) (st' := [.int (Int32.ofNat i), .ref q]) rfl ?_
    refine px_ial rfl hg (by rw [nms_ln]; omega) (nms_iv (by omega)) ?_
    refine px_run 5 (pc' := 35) (lv' := [(7, .int (Int32.ofNat i)), (0, .ref x), (1, .ref q), (2, .int (itf (wls (EPf n D (ef 0 m))) i (Int32.ofNat 99))), (3, .int (Int32.ofNat 0)), (4, .ref q), (5, .int (Int32.ofNat n)), (6, .int (Int32.ofNat i))]) (st' := [.int (Int32.ofNat 0), .int (Int32.ofNat i), .ref x, .int (itf (wls (EPf n D (ef 0 m))) i (Int32.ofNat 99))]) rfl ?_
    refine px_cls rfl rfl rfl rfl rfl rfl hO (c_res0 hn hF (by omega) ?_)
    rw [hO.2]
    show Px (some scl) (some scl) 110 38 _ [.int (EPf n D (ef 0 m) i), .int (itf (wls (EPf n D (ef 0 m))) i (Int32.ofNat 99))] h ks Φ
    refine px_math (v := wls (EPf n D (ef 0 m)) i (itf (wls (EPf n D (ef 0 m))) i (Int32.ofNat 99))) (rest := []) rfl rfl ?_
    refine px_run 3 (pc' := 16) (lv' := [(6, .int ((Int32.ofNat i) + 1)), (2, .int (itf (wls (EPf n D (ef 0 m))) (i + 1) (Int32.ofNat 99))), (7, .int (Int32.ofNat i)), (0, .ref x), (1, .ref q), (3, .int (Int32.ofNat 0)), (4, .ref q), (5, .int (Int32.ofNat n))]) (st' := []) rfl ?_
    rw [i32_s]
    refine px_sel [0, 1, 2, 3, 4, 5, 6] rfl ?_
    exact ih (i + 1) (by omega)
theorem lz_w2 {x q : Nat} {least : Int32} (hn : n ≤ 7) (hF : finF s n D J P cl jc m) (hO : Ob h x s) (hg : xget h q = some (100, ivs (nms n))) (kk : Px (some scl) (some scl) 110 101 [(3, .int (itf (sws (EPf n D (ef 0 m)) least) n 0))] [] h ks Φ) : ∀ m9 i : Nat, i + m9 = n → Px (some scl) (some scl) 110 59 [(0, .ref x), (1, .ref q), (2, .int least), (3, .int (itf (sws (EPf n D (ef 0 m)) least) i 0)), (4, .ref q), (5, .int (Int32.ofNat n)), (6, .int (Int32.ofNat i))] [] h ks Φ := by
  intro m9
  induction m9 with
  | zero =>
    intro i hi
    have e : i = n := by omega
    subst e
    refine px_run 2 (pc' := 63) (lv' := [(0, .ref x), (1, .ref q), (2, .int least), (3, .int (itf (sws (EPf i D (ef 0 m)) least) i 0)), (4, .ref q), (5, .int (Int32.ofNat i)), (6, .int (Int32.ofNat i))]) (st' := [.int (Int32.ofNat i), .int (Int32.ofNat i)]) rfl ?_
    refine px_icmp rfl rfl (fun hb => ?_) (fun hb => ?_)
    · refine px_sel [3] rfl ?_
      exact kk
    · have hb := xN (xc_ge _ _) hb
      omega
  | succ m9 ih =>
    intro i hi
    refine px_run 2 (pc' := 63) (lv' := [(0, .ref x), (1, .ref q), (2, .int least), (3, .int (itf (sws (EPf n D (ef 0 m)) least) i 0)), (4, .ref q), (5, .int (Int32.ofNat n)), (6, .int (Int32.ofNat i))]) (st' := [.int (Int32.ofNat n), .int (Int32.ofNat i)]) rfl ?_
    refine px_icmp rfl rfl (fun hb => ?_) (fun hb => ?_)
    · have hb := xT (xc_ge _ _) hb
      rw [i32_to (by omega), i32_to (by omega)] at hb
      omega
    refine px_run 2 (pc' := 70) (lv' := [(0, .ref x), (1, .ref q), (2, .int least), (3, .int (itf (sws (EPf n D (ef 0 m)) least) i 0)), (4, .ref q), (5, .int (Int32.ofNat n)), (6, .int (Int32.ofNat i))]) (st' := [.int (Int32.ofNat i), .ref q]) rfl ?_
    refine px_ial rfl hg (by rw [nms_ln]; omega) (nms_iv (by omega)) ?_
    refine px_run 5 (pc' := 78) (lv' := [(7, .int (Int32.ofNat i)), (0, .ref x), (1, .ref q), (2, .int least), (3, .int (itf (sws (EPf n D (ef 0 m)) least) i 0)), (4, .ref q), (5, .int (Int32.ofNat n)), (6, .int (Int32.ofNat i))]) (st' := [.int (Int32.ofNat 0), .int (Int32.ofNat i), .ref x, .int (itf (sws (EPf n D (ef 0 m)) least) i 0)]) rfl ?_
    refine px_cls rfl rfl rfl rfl rfl rfl hO (c_res0 hn hF (by omega) ?_)
    rw [hO.2]
    show Px (some scl) (some scl) 110 81 _ [.int (EPf n D (ef 0 m) i), .int (itf (sws (EPf n D (ef 0 m)) least) i 0)] h ks Φ
    refine px_run 1 (pc' := 82) (lv' := [(7, .int (Int32.ofNat i)), (0, .ref x), (1, .ref q), (2, .int least), (3, .int (itf (sws (EPf n D (ef 0 m)) least) i 0)), (4, .ref q), (5, .int (Int32.ofNat n)), (6, .int (Int32.ofNat i))]) (st' := [.int least, .int (EPf n D (ef 0 m) i), .int (itf (sws (EPf n D (ef 0 m)) least) i 0)]) rfl ?_
    refine px_icmp rfl rfl (fun hb => ?_) (fun hb => ?_)
    · have e : itf (sws (EPf n D (ef 0 m)) least) (i + 1) 0 = itf (sws (EPf n D (ef 0 m)) least) i 0 + Int32.ofNat 0 := by
        show sws (EPf n D (ef 0 m)) least i (itf (sws (EPf n D (ef 0 m)) least) i 0) = _
        unfold sws
        rw [hb]
        rfl
      refine px_run 5 (pc' := 59) (lv' := [(6, .int ((Int32.ofNat i) + 1)), (3, .int ((itf (sws (EPf n D (ef 0 m)) least) i 0) + (Int32.ofNat 0))), (7, .int (Int32.ofNat i)), (0, .ref x), (1, .ref q), (2, .int least), (4, .ref q), (5, .int (Int32.ofNat n))]) (st' := []) rfl ?_
      rw [i32_s, ← e]
      refine px_sel [0, 1, 2, 3, 4, 5, 6] rfl ?_
      exact ih (i + 1) (by omega)
    · have e : itf (sws (EPf n D (ef 0 m)) least) (i + 1) 0 = itf (sws (EPf n D (ef 0 m)) least) i 0 + (1 <<< (Int32.ofNat i &&& 31)) := by
        show sws (EPf n D (ef 0 m)) least i (itf (sws (EPf n D (ef 0 m)) least) i 0) = _
        unfold sws
        rw [hb]
        rfl
      refine px_run 8 (pc' := 59) (lv' := [(6, .int ((Int32.ofNat i) + 1)), (3, .int ((itf (sws (EPf n D (ef 0 m)) least) i 0) + (1 <<< ((Int32.ofNat i) &&& 31)))), (7, .int (Int32.ofNat i)), (0, .ref x), (1, .ref q), (2, .int least), (4, .ref q), (5, .int (Int32.ofNat n))]) (st' := []) rfl ?_
      rw [i32_s, ← e]
      refine px_sel [0, 1, 2, 3, 4, 5, 6] rfl ?_
      exact ih (i + 1) (by omega)
theorem cx_winl {x q : Nat} (hn1 : 1 ≤ n) (hn : n ≤ 7) (hF : finF s n D J P cl jc m) (hO : Ob h x s) (hg : xget h q = some (100, ivs (nms n))) (kk : Φ (none, some (.int (wns n D m 0)), h, ks)) : Qx (some scl) 110 [.ref x, .ref q] h ks Φ := by
  refine Qx.of (Or.inl rfl) (Nat.le_of_ble_eq_true rfl) ?_
  refine px_run 7 (pc' := 10) (lv' := [(4, .ref q), (3, .int (Int32.ofNat 0)), (2, .int (Int32.ofNat 99)), (0, .ref x), (1, .ref q)]) (st' := [.ref q]) rfl ?_
  refine px_al rfl hg (by decide) ?_
  rw [nms_ln]
  refine px_run 3 (pc' := 16) (lv' := [(6, .int (Int32.ofNat 0)), (5, .int (Int32.ofNat n)), (4, .ref q), (3, .int (Int32.ofNat 0)), (2, .int (Int32.ofNat 99)), (0, .ref x), (1, .ref q)]) (st' := []) rfl ?_
  refine px_sel [0, 1, 2, 3, 4, 5, 6] rfl ?_
  refine lz_w1 (least := 0) hn hF hO hg ?_ n 0 (Nat.zero_add n)
  rw [wls_99 (EPf_low hn1 hn)]
  refine px_run 3 (pc' := 53) (lv' := [(4, .ref q), (0, .ref x), (1, .ref q), (2, .int (wnl (EPf n D (ef 0 m)) n)), (3, .int (Int32.ofNat 0))]) (st' := [.ref q]) rfl ?_
  refine px_al rfl hg (by decide) ?_
  rw [nms_ln]
  refine px_run 3 (pc' := 59) (lv' := [(6, .int (Int32.ofNat 0)), (5, .int (Int32.ofNat n)), (4, .ref q), (0, .ref x), (1, .ref q), (2, .int (wnl (EPf n D (ef 0 m)) n)), (3, .int (Int32.ofNat 0))]) (st' := []) rfl ?_
  refine px_sel [0, 1, 2, 3, 4, 5, 6] rfl ?_
  refine lz_w2 hn hF hO hg ?_ n 0 (Nat.zero_add n)
  rw [sws_ok hn]
  refine px_run 1 (pc' := 102) (lv' := [(3, .int (itf (wws (EPf n D (ef 0 m)) (wnl (EPf n D (ef 0 m)) n)) n 0))]) (st' := [.int (itf (wws (EPf n D (ef 0 m)) (wnl (EPf n D (ef 0 m)) n)) n 0)]) rfl ?_
  exact px_ret rfl rfl (xex_int rfl) kk
end YBA
