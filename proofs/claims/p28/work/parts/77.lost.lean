/-! the law: sheets lost and told again -/
section YBD
variable {sd : Option (List Int32)} {scl : List Int32} {μ pc : Nat} {lv : xL} {st : List Value} {h : xH} {ks : Nat} {Φ : xO → Prop}
variable {n D J : Nat} {P : Int32} {cl jc : Nat → Int32} {b c fn sh K : Nat} {M A N : Nat → Nat → List Nat}
/-- a judge's first sheets taken away -/
def gpM (M : Nat → Nat → List Nat) (j e : Nat) : Nat → Nat → List Nat := fun a x => if a = j ∧ x < e then [] else M a x
/-- a judge's first sheets told again -/
def bkM (M : Nat → Nat → List Nat) (j e : Nat) : Nat → Nat → List Nat := fun a x => if a = j ∧ ¬ x < e then [] else M a x
theorem gpM_0 (M : Nat → Nat → List Nat) (j : Nat) : gpM M j 0 = M := by
  funext a x
  unfold gpM
  rw [if_neg (by omega)]
theorem gpM_at (M : Nat → Nat → List Nat) (j e : Nat) : gpM M j e j e = M j e := by
  unfold gpM
  rw [if_neg (by omega)]
theorem gpM_s (M : Nat → Nat → List Nat) (j e : Nat) : upM (gpM M j e) j e [] = gpM M j (e + 1) := by
  funext a x
  unfold upM gpM
  by_cases h1 : a = j ∧ x = e
  · rw [if_pos h1, if_pos ⟨h1.1, by omega⟩]
  · rw [if_neg h1]
    by_cases h2 : a = j ∧ x < e
    · rw [if_pos h2, if_pos ⟨h2.1, by omega⟩]
    · rw [if_neg h2, if_neg (by omega)]
theorem gpM_k {j e : Nat} (h : M j e = []) : gpM M j e = gpM M j (e + 1) := by
  funext a x
  unfold gpM
  by_cases h1 : a = j ∧ x < e
  · rw [if_pos h1, if_pos ⟨h1.1, by omega⟩]
  · rw [if_neg h1]
    by_cases h2 : a = j ∧ x < e + 1
    · rw [if_pos h2, h2.1, show x = e by omega, h]
    · rw [if_neg h2]
theorem gpM_D {j : Nat} (hM : okT n D P M) : gpM M j D = goM M j := by
  funext a x
  unfold gpM goM
  by_cases h1 : a = j
  · rw [if_pos h1]
    by_cases h2 : x < D
    · rw [if_pos ⟨h1, h2⟩]
    · rw [if_neg (fun z => h2 z.2)]
      exact hM.no (fun z => h2 z.2)
  · rw [if_neg h1, if_neg (fun z => h1 z.1)]
theorem okM_gp {j e : Nat} (hM : okM n M) : okM n (gpM M j e) := by
  intro a x
  unfold gpM
  by_cases h : a = j ∧ x < e
  · rw [if_pos h]
    exact Or.inl rfl
  · rw [if_neg h]
    exact hM a x
theorem okM_bk {j e : Nat} (hM : okM n M) : okM n (bkM M j e) := by
  intro a x
  unfold bkM
  by_cases h : a = j ∧ ¬ x < e
  · rw [if_pos h]
    exact Or.inl rfl
  · rw [if_neg h]
    exact hM a x
theorem bkM_0 (M : Nat → Nat → List Nat) (j : Nat) : bkM M j 0 = goM M j := by
  funext a x
  unfold bkM goM
  by_cases h1 : a = j
  · rw [if_pos h1, if_pos ⟨h1, Nat.not_lt_zero _⟩]
  · rw [if_neg h1, if_neg (fun z => h1 z.1)]
theorem bkM_s (M : Nat → Nat → List Nat) (j e : Nat) : upM (bkM M j e) j e (M j e) = bkM M j (e + 1) := by
  funext a x
  unfold upM bkM
  by_cases h1 : a = j ∧ x = e
  · rw [if_pos h1, if_neg (by omega), h1.1, h1.2]
  · rw [if_neg h1]
    by_cases h2 : a = j ∧ ¬ x < e
    · rw [if_pos h2, if_pos (by omega)]
    · rw [if_neg h2, if_neg (by omega)]
theorem bkM_k {j e : Nat} (h : M j e = []) : bkM M j e = bkM M j (e + 1) := by
  funext a x
  unfold bkM
  by_cases h2 : a = j ∧ ¬ x < e + 1
  · rw [if_pos h2, if_pos (by omega)]
  · rw [if_neg h2]
    by_cases h1 : a = j ∧ ¬ x < e
    · rw [if_pos h1, h1.1, show x = e by omega, h]
    · rw [if_neg h1]
theorem bkM_D {j : Nat} (hM : okT n D P M) : bkM M j D = M := by
  funext a x
  unfold bkM
  by_cases h1 : a = j ∧ ¬ x < D
  · rw [if_pos h1, hM.no (fun z => h1.2 z.2)]
  · rw [if_neg h1]
set_option maxHeartbeats 1000000 in
set_option maxRecDepth 20000 in
theorem lz_los {j d cp on ot HB : Nat} {vt vk vw vf vn : Int32} {x6 : Int64} (hn1 : 1 ≤ n) (hn : n ≤ 7) (hD : D ≤ 5) (hM : okT n D P M) (hj : j < 7) (kk : ∀ h', Zs n D J P cl jc b c fn sh K M M (gpM M j D) h' → h'.length ≤ HB → Px (some scl) (some scl) 111 582 [(0, .ref 0), (1, .int vt), (2, .ref b), (3, .ref c), (4, .ref (b + 1)), (5, .int (Int32.ofNat n)), (6, .long x6), (8, .int vk), (9, .int (Int32.ofNat j)), (10, .int (Int32.ofNat d)), (11, .int (Int32.ofNat cp)), (12, .int (Int32.ofNat on)), (13, .int (Int32.ofNat ot)), (14, .int vw), (15, .int vf), (16, .int vn)] [] h' ks Φ) : ∀ (m9 e : Nat) (h : xH), e + m9 = D → h.length ≤ HB → Zs n D J P cl jc b c fn sh K M M (gpM M j e) h → Px (some scl) (some scl) 111 541 [(0, .ref 0), (1, .int vt), (2, .ref b), (3, .ref c), (4, .ref (b + 1)), (5, .int (Int32.ofNat n)), (6, .long x6), (8, .int vk), (9, .int (Int32.ofNat j)), (10, .int (Int32.ofNat d)), (11, .int (Int32.ofNat cp)), (12, .int (Int32.ofNat on)), (13, .int (Int32.ofNat ot)), (14, .int vw), (15, .int vf), (16, .int vn), (17, .int (Int32.ofNat e))] [] h ks Φ := by
  intro m9
  induction m9 with
  | zero =>
    intro e h he hh hZ
    have e9 : e = D := by omega
    subst e9
    refine px_run 2 (pc' := 544) (lv' := [(0, .ref 0), (1, .int vt), (2, .ref b), (3, .ref c), (4, .ref (b + 1)), (5, .int (Int32.ofNat n)), (6, .long x6), (8, .int vk), (9, .int (Int32.ofNat j)), (10, .int (Int32.ofNat d)), (11, .int (Int32.ofNat cp)), (12, .int (Int32.ofNat on)), (13, .int (Int32.ofNat ot)), (14, .int vw), (15, .int vf), (16, .int vn), (17, .int (Int32.ofNat e))]) (st' := [.ref b, .int (Int32.ofNat e)]) rfl ?_
    refine px_gt rfl rfl hZ (fun _ _ _ _ _ => rfl) ?_
    refine px_icmp rfl rfl (fun hb => ?_) (fun hb => ?_)
    · refine px_sel [0, 1, 2, 3, 4, 5, 6, 8, 9, 10, 11, 12, 13, 14, 15, 16] rfl ?_
      exact kk h hZ hh
    · have hb := xN (xc_ge _ _) hb
      omega
  | succ m9 ih =>
    intro e h he hh hZ
    refine px_run 2 (pc' := 544) (lv' := [(0, .ref 0), (1, .int vt), (2, .ref b), (3, .ref c), (4, .ref (b + 1)), (5, .int (Int32.ofNat n)), (6, .long x6), (8, .int vk), (9, .int (Int32.ofNat j)), (10, .int (Int32.ofNat d)), (11, .int (Int32.ofNat cp)), (12, .int (Int32.ofNat on)), (13, .int (Int32.ofNat ot)), (14, .int vw), (15, .int vf), (16, .int vn), (17, .int (Int32.ofNat e))]) (st' := [.ref b, .int (Int32.ofNat e)]) rfl ?_
    refine px_gt rfl rfl hZ (fun _ _ _ _ _ => rfl) ?_
    refine px_icmp rfl rfl (fun hb => ?_) (fun hb => ?_)
    · have hb := xT (xc_ge _ _) hb
      rw [i32_to (by omega), i32_to (by omega)] at hb
      omega
    refine px_run 1 (pc' := 551) (lv' := [(0, .ref 0), (1, .int vt), (2, .ref b), (3, .ref c), (4, .ref (b + 1)), (5, .int (Int32.ofNat n)), (6, .long x6), (8, .int vk), (9, .int (Int32.ofNat j)), (10, .int (Int32.ofNat d)), (11, .int (Int32.ofNat cp)), (12, .int (Int32.ofNat on)), (13, .int (Int32.ofNat ot)), (14, .int vw), (15, .int vf), (16, .int vn), (17, .int (Int32.ofNat e))]) (st' := [.ref b]) rfl ?_
    refine px_gt rfl rfl hZ (fun _ _ _ _ _ => rfl) ?_
    refine px_run 1 (pc' := 556) (lv' := [(0, .ref 0), (1, .int vt), (2, .ref b), (3, .ref c), (4, .ref (b + 1)), (5, .int (Int32.ofNat n)), (6, .long x6), (8, .int vk), (9, .int (Int32.ofNat j)), (10, .int (Int32.ofNat d)), (11, .int (Int32.ofNat cp)), (12, .int (Int32.ofNat on)), (13, .int (Int32.ofNat ot)), (14, .int vw), (15, .int vf), (16, .int vn), (17, .int (Int32.ofNat e))]) (st' := [.int (Int32.ofNat j), .ref sh]) rfl ?_
    refine px_row rfl hj hZ ?_
    refine px_run 1 (pc' := 559) (lv' := [(0, .ref 0), (1, .int vt), (2, .ref b), (3, .ref c), (4, .ref (b + 1)), (5, .int (Int32.ofNat n)), (6, .long x6), (8, .int vk), (9, .int (Int32.ofNat j)), (10, .int (Int32.ofNat d)), (11, .int (Int32.ofNat cp)), (12, .int (Int32.ofNat on)), (13, .int (Int32.ofNat ot)), (14, .int vw), (15, .int vf), (16, .int vn), (17, .int (Int32.ofNat e))]) (st' := [.int (Int32.ofNat e), .ref (sh + 1 + j * 6)]) rfl ?_
    refine px_mks rfl hj (by omega) hZ (fun q hq gq => ?_)
    refine px_al rfl gq (by decide) ?_
    rw [mks_len]
    have hln := okM_len hM.1 j e
    refine px_if rfl rfl (fun hb => ?_) (fun hb => ?_)
    · have hb := xT (xc_le _ _) hb
      rw [i32_to (by omega), Int32.toInt_zero] at hb
      have e1 : M j e = [] := List.length_eq_zero_iff.mp (by omega)
      refine px_run 2 (pc' := 541) (lv' := [(17, .int ((Int32.ofNat e) + 1)), (0, .ref 0), (1, .int vt), (2, .ref b), (3, .ref c), (4, .ref (b + 1)), (5, .int (Int32.ofNat n)), (6, .long x6), (8, .int vk), (9, .int (Int32.ofNat j)), (10, .int (Int32.ofNat d)), (11, .int (Int32.ofNat cp)), (12, .int (Int32.ofNat on)), (13, .int (Int32.ofNat ot)), (14, .int vw), (15, .int vf), (16, .int vn)]) (st' := []) rfl ?_
      rw [i32_s]
      refine px_sel [0, 1, 2, 3, 4, 5, 6, 8, 9, 10, 11, 12, 13, 14, 15, 16, 17] rfl ?_
      exact ih (e + 1) h (by omega) hh (by rw [← gpM_k e1]; exact hZ)
    · have hb := xN (xc_le _ _) hb
      rw [i32_to (by omega), Int32.toInt_zero] at hb
      have e1 : M j e ≠ [] := fun z => by rw [z] at hb; simp at hb
      have hS := (hM.1 j e).resolve_left e1
      obtain ⟨t1, t2, t3⟩ := hM.2 j e e1
      refine px_run 1 (pc' := 565) (lv' := [(0, .ref 0), (1, .int vt), (2, .ref b), (3, .ref c), (4, .ref (b + 1)), (5, .int (Int32.ofNat n)), (6, .long x6), (8, .int vk), (9, .int (Int32.ofNat j)), (10, .int (Int32.ofNat d)), (11, .int (Int32.ofNat cp)), (12, .int (Int32.ofNat on)), (13, .int (Int32.ofNat ot)), (14, .int vw), (15, .int vf), (16, .int vn), (17, .int (Int32.ofNat e))]) (st' := [.ref c]) rfl ?_
      refine px_go rfl rfl hZ ?_
      refine px_run 2 (pc' := 572) (lv' := [(0, .ref 0), (1, .int vt), (2, .ref b), (3, .ref c), (4, .ref (b + 1)), (5, .int (Int32.ofNat n)), (6, .long x6), (8, .int vk), (9, .int (Int32.ofNat j)), (10, .int (Int32.ofNat d)), (11, .int (Int32.ofNat cp)), (12, .int (Int32.ofNat on)), (13, .int (Int32.ofNat ot)), (14, .int vw), (15, .int vf), (16, .int vn), (17, .int (Int32.ofNat e))]) (st' := [.int (Int32.ofNat e), .int (Int32.ofNat j), .ref (c + 1)]) rfl ?_
      refine pz_o (N' := gpM M j (e + 1)) (Q := fun _ => True) rfl rfl rfl rfl rfl rfl hZ (fun s Ψ hF k => f_lose hn1 hn hD hj t2 hF (okM_gp hM.1) (by rw [gpM_at]; exact hS) (fun v T hT => k v T trivial (by rw [← gpM_s]; exact hT))) (fun v h1 _ hZ1 l1 => ?_)
      refine px_run 3 (pc' := 541) (lv' := [(17, .int ((Int32.ofNat e) + 1)), (0, .ref 0), (1, .int vt), (2, .ref b), (3, .ref c), (4, .ref (b + 1)), (5, .int (Int32.ofNat n)), (6, .long x6), (8, .int vk), (9, .int (Int32.ofNat j)), (10, .int (Int32.ofNat d)), (11, .int (Int32.ofNat cp)), (12, .int (Int32.ofNat on)), (13, .int (Int32.ofNat ot)), (14, .int vw), (15, .int vf), (16, .int vn)]) (st' := []) rfl ?_
      rw [i32_s]
      refine px_sel [0, 1, 2, 3, 4, 5, 6, 8, 9, 10, 11, 12, 13, 14, 15, 16, 17] rfl ?_
      exact ih (e + 1) h1 (by omega) (by omega) hZ1
set_option maxHeartbeats 1000000 in
set_option maxRecDepth 20000 in
theorem lz_bak {j HB : Nat} {vt vk : Int32} {x6 : Int64} (hn1 : 1 ≤ n) (hn : n ≤ 7) (hD : D ≤ 5) (hM : okT n D P M) (hj : j < 7) (kk : ∀ h', Zs n D J P cl jc b c fn sh K M M (bkM M j D) h' → h'.length ≤ HB → Px (some scl) (some scl) 111 679 [(0, .ref 0), (1, .int vt), (2, .ref b), (3, .ref c), (4, .ref (b + 1)), (5, .int (Int32.ofNat n)), (6, .long x6), (8, .int vk)] [] h' ks Φ) : ∀ (m9 e : Nat) (h : xH), e + m9 = D → h.length ≤ HB → Zs n D J P cl jc b c fn sh K M M (bkM M j e) h → Px (some scl) (some scl) 111 624 [(0, .ref 0), (1, .int vt), (2, .ref b), (3, .ref c), (4, .ref (b + 1)), (5, .int (Int32.ofNat n)), (6, .long x6), (8, .int vk), (9, .int (Int32.ofNat j)), (17, .int (Int32.ofNat e))] [] h ks Φ := by
  intro m9
  induction m9 with
  | zero =>
    intro e h he hh hZ
    have e9 : e = D := by omega
    subst e9
    refine px_run 2 (pc' := 627) (lv' := [(0, .ref 0), (1, .int vt), (2, .ref b), (3, .ref c), (4, .ref (b + 1)), (5, .int (Int32.ofNat n)), (6, .long x6), (8, .int vk), (9, .int (Int32.ofNat j)), (17, .int (Int32.ofNat e))]) (st' := [.ref b, .int (Int32.ofNat e)]) rfl ?_
    refine px_gt rfl rfl hZ (fun _ _ _ _ _ => rfl) ?_
    refine px_icmp rfl rfl (fun hb => ?_) (fun hb => ?_)
    · refine px_sel [0, 1, 2, 3, 4, 5, 6, 8] rfl ?_
      exact kk h hZ hh
    · have hb := xN (xc_ge _ _) hb
      omega
  | succ m9 ih =>
    intro e h he hh hZ
    refine px_run 2 (pc' := 627) (lv' := [(0, .ref 0), (1, .int vt), (2, .ref b), (3, .ref c), (4, .ref (b + 1)), (5, .int (Int32.ofNat n)), (6, .long x6), (8, .int vk), (9, .int (Int32.ofNat j)), (17, .int (Int32.ofNat e))]) (st' := [.ref b, .int (Int32.ofNat e)]) rfl ?_
    refine px_gt rfl rfl hZ (fun _ _ _ _ _ => rfl) ?_
    refine px_icmp rfl rfl (fun hb => ?_) (fun hb => ?_)
    · have hb := xT (xc_ge _ _) hb
      rw [i32_to (by omega), i32_to (by omega)] at hb
      omega
    refine px_run 1 (pc' := 634) (lv' := [(0, .ref 0), (1, .int vt), (2, .ref b), (3, .ref c), (4, .ref (b + 1)), (5, .int (Int32.ofNat n)), (6, .long x6), (8, .int vk), (9, .int (Int32.ofNat j)), (17, .int (Int32.ofNat e))]) (st' := [.ref b]) rfl ?_
    refine px_gt rfl rfl hZ (fun _ _ _ _ _ => rfl) ?_
    refine px_run 1 (pc' := 639) (lv' := [(0, .ref 0), (1, .int vt), (2, .ref b), (3, .ref c), (4, .ref (b + 1)), (5, .int (Int32.ofNat n)), (6, .long x6), (8, .int vk), (9, .int (Int32.ofNat j)), (17, .int (Int32.ofNat e))]) (st' := [.int (Int32.ofNat j), .ref sh]) rfl ?_
    refine px_row rfl hj hZ ?_
    refine px_run 1 (pc' := 642) (lv' := [(0, .ref 0), (1, .int vt), (2, .ref b), (3, .ref c), (4, .ref (b + 1)), (5, .int (Int32.ofNat n)), (6, .long x6), (8, .int vk), (9, .int (Int32.ofNat j)), (17, .int (Int32.ofNat e))]) (st' := [.int (Int32.ofNat e), .ref (sh + 1 + j * 6)]) rfl ?_
    refine px_mks rfl hj (by omega) hZ (fun q hq gq => ?_)
    refine px_al rfl gq (by decide) ?_
    rw [mks_len]
    have hln := okM_len hM.1 j e
    refine px_if rfl rfl (fun hb => ?_) (fun hb => ?_)
    · have hb := xT (xc_le _ _) hb
      rw [i32_to (by omega), Int32.toInt_zero] at hb
      have e1 : M j e = [] := List.length_eq_zero_iff.mp (by omega)
      refine px_run 2 (pc' := 624) (lv' := [(17, .int ((Int32.ofNat e) + 1)), (0, .ref 0), (1, .int vt), (2, .ref b), (3, .ref c), (4, .ref (b + 1)), (5, .int (Int32.ofNat n)), (6, .long x6), (8, .int vk), (9, .int (Int32.ofNat j))]) (st' := []) rfl ?_
      rw [i32_s]
      refine px_sel [0, 1, 2, 3, 4, 5, 6, 8, 9, 17] rfl ?_
      exact ih (e + 1) h (by omega) hh (by rw [← bkM_k e1]; exact hZ)
    · have hb := xN (xc_le _ _) hb
      rw [i32_to (by omega), Int32.toInt_zero] at hb
      have e1 : M j e ≠ [] := fun z => by rw [z] at hb; simp at hb
      have hS := (hM.1 j e).resolve_left e1
      obtain ⟨t1, t2, t3⟩ := hM.2 j e e1
      refine px_run 1 (pc' := 648) (lv' := [(0, .ref 0), (1, .int vt), (2, .ref b), (3, .ref c), (4, .ref (b + 1)), (5, .int (Int32.ofNat n)), (6, .long x6), (8, .int vk), (9, .int (Int32.ofNat j)), (17, .int (Int32.ofNat e))]) (st' := [.ref c]) rfl ?_
      refine px_go rfl rfl hZ ?_
      refine px_run 3 (pc' := 656) (lv' := [(0, .ref 0), (1, .int vt), (2, .ref b), (3, .ref c), (4, .ref (b + 1)), (5, .int (Int32.ofNat n)), (6, .long x6), (8, .int vk), (9, .int (Int32.ofNat j)), (17, .int (Int32.ofNat e))]) (st' := [.ref b, .int (Int32.ofNat e), .int (Int32.ofNat j), .ref (c + 1)]) rfl ?_
      refine px_gt rfl rfl hZ (fun _ _ _ _ _ => rfl) ?_
      refine px_run 1 (pc' := 661) (lv' := [(0, .ref 0), (1, .int vt), (2, .ref b), (3, .ref c), (4, .ref (b + 1)), (5, .int (Int32.ofNat n)), (6, .long x6), (8, .int vk), (9, .int (Int32.ofNat j)), (17, .int (Int32.ofNat e))]) (st' := [.int (Int32.ofNat j), .ref sh, .int (Int32.ofNat e), .int (Int32.ofNat j), .ref (c + 1)]) rfl ?_
      refine px_row rfl hj hZ ?_
      refine px_run 1 (pc' := 664) (lv' := [(0, .ref 0), (1, .int vt), (2, .ref b), (3, .ref c), (4, .ref (b + 1)), (5, .int (Int32.ofNat n)), (6, .long x6), (8, .int vk), (9, .int (Int32.ofNat j)), (17, .int (Int32.ofNat e))]) (st' := [.int (Int32.ofNat e), .ref (sh + 1 + j * 6), .int (Int32.ofNat e), .int (Int32.ofNat j), .ref (c + 1)]) rfl ?_
      refine px_mks rfl hj (by omega) hZ (fun q2 hq2 gq2 => ?_)
      refine px_st (as := [.ref (c + 1), .int (Int32.ofNat j), .int (Int32.ofNat e), .ref q2]) (rest := []) rfl rfl rfl rfl rfl (cz_same hn1 hn hD hj t2 t3 (okM_bk hM.1) hS gq2 hZ (fun h1 hZ1 l1 => ?_))
      show Px (some scl) (some scl) 111 668 _ [.int 1] h1 ks Φ
      refine px_if rfl rfl (fun hb => ?_) (fun hb => by cases hb)
      refine px_run 2 (pc' := 624) (lv' := [(17, .int ((Int32.ofNat e) + 1)), (0, .ref 0), (1, .int vt), (2, .ref b), (3, .ref c), (4, .ref (b + 1)), (5, .int (Int32.ofNat n)), (6, .long x6), (8, .int vk), (9, .int (Int32.ofNat j))]) (st' := []) rfl ?_
      rw [i32_s]
      refine px_sel [0, 1, 2, 3, 4, 5, 6, 8, 9, 17] rfl ?_
      exact ih (e + 1) h1 (by omega) (by omega) (by rw [← bkM_s]; exact hZ1)
end YBD
