/-! the law: ten sheets told; the same told to the other hall -/
section YBB
variable {sd : Option (List Int32)} {scl : List Int32} {μ pc : Nat} {lv : xL} {st : List Value} {h : xH} {ks : Nat} {Φ : xO → Prop}
variable {n D J : Nat} {P : Int32} {cl jc : Nat → Int32} {b c fn sh K : Nat} {M A N : Nat → Nat → List Nat}
/-- marks told by judges of the panel, in dances that there are -/
def okT (n D : Nat) (P : Int32) (M : Nat → Nat → List Nat) : Prop := okM n M ∧ ∀ j d, M j d ≠ [] → j < 7 ∧ d < D ∧ hds P (Int32.ofNat j)
theorem okT_0 : okT n D P (fun _ _ => []) := ⟨fun _ _ => Or.inl rfl, fun _ _ q => absurd rfl q⟩
theorem okT_up {j d : Nat} {L : List Nat} (hM : okT n D P M) (hj : j < 7) (hd : d < D) (hP : hds P (Int32.ofNat j)) (hL : okS n L) : okT n D P (upM M j d L) := by
  refine ⟨okM_up hM.1 (Or.inr hL), fun a e q => ?_⟩
  unfold upM at q
  by_cases h1 : a = j ∧ e = d
  · obtain ⟨rfl, rfl⟩ := h1
    exact ⟨hj, hd, hP⟩
  · rw [if_neg h1] at q
    exact hM.2 a e q
theorem okT.no {j d : Nat} (hM : okT n D P M) (h : ¬ (j < 7 ∧ d < D)) : M j d = [] := by
  by_cases e : M j d = []
  · exact e
  · have := hM.2 j d e
    exact absurd ⟨this.1, this.2.1⟩ h
theorem hds_1 {p k : Nat} (h : hd (Int32.ofNat p) (Int32.ofNat k) = 1) : hds (Int32.ofNat p) (Int32.ofNat k) := by
  by_cases e : hds (Int32.ofNat p) (Int32.ofNat k)
  · exact e
  · rw [hd_f e] at h
    cases h
theorem cz_panl {p f : Nat} (hZ : Zs n D J P cl jc b c fn sh K M A N h) (hPe : P = Int32.ofNat p) (hp : p < 128) (h0 : p ≠ 0) (hf : f < 7) (kk : Φ (none, some (.int (Int32.ofNat (pnl p 7 f))), h, ks)) : Qx sd 82 [.ref b, .int (Int32.ofNat f)] h ks Φ := by
  obtain ⟨z1, z2, z3, z4, ⟨cx, ju, ou, cr, pe, z5⟩, _⟩ := hZ
  exact cx_panl z5 (by rw [hPe]; rfl) hp h0 hf kk
/-- t's object is asked -/
theorem pz_t {x μ' : Nat} {as rest : List Value} {v : Int32} (hi : (xmc μ)[pc]? = some (some (.invokevirtual x))) (hv : xinv (xmo μ) μ x st = some (1, μ', .ref (b + 1) :: as, rest)) (hd : xcod μ' = true) (hm : xmo μ' = 9) (hh : xmh μ = []) (ha : as.all xint = true) (hZ : Zs n D J P cl jc b c fn sh K M A N h)
    (hc : ∀ (s : yS) (Ψ : Option Value → yS → Prop), finF s n D J P cl jc (mM A) → (∀ T, finF T n D J P cl jc (mM A) → Ψ (some (.int v)) T) → Yq sd μ' (.ref 0 :: as) s Ψ) (kk : ∀ h', Zs n D J P cl jc b c fn sh K M A N h' → h'.length = h.length → Px sd sd μ (pc + 3) lv (.int v :: rest) h' ks Φ) : Px sd sd μ pc lv st h ks Φ := by
  have hZ9 := hZ
  obtain ⟨z1, z2, z3, z4, z5, z6, ⟨s, z7, z8⟩, _⟩ := hZ
  exact px_cls hi hv hd hm hh ha z7 (hc s _ z8 (fun T hT => kk _ (hZ9.t hT) (yput_len _ _ _)))
theorem pz_tl {x μ' : Nat} {as rest : List Value} {v : Int64} (hi : (xmc μ)[pc]? = some (some (.invokevirtual x))) (hv : xinv (xmo μ) μ x st = some (1, μ', .ref (b + 1) :: as, rest)) (hd : xcod μ' = true) (hm : xmo μ' = 9) (hh : xmh μ = []) (ha : as.all xint = true) (hZ : Zs n D J P cl jc b c fn sh K M A N h)
    (hc : ∀ (s : yS) (Ψ : Option Value → yS → Prop), finF s n D J P cl jc (mM A) → (∀ T, finF T n D J P cl jc (mM A) → Ψ (some (.long v)) T) → Yq sd μ' (.ref 0 :: as) s Ψ) (kk : ∀ h', Zs n D J P cl jc b c fn sh K M A N h' → h'.length = h.length → Px sd sd μ (pc + 3) lv (.long v :: rest) h' ks Φ) : Px sd sd μ pc lv st h ks Φ := by
  have hZ9 := hZ
  obtain ⟨z1, z2, z3, z4, z5, z6, ⟨s, z7, z8⟩, _⟩ := hZ
  exact px_cls hi hv hd hm hh ha z7 (hc s _ z8 (fun T hT => kk _ (hZ9.t hT) (yput_len _ _ _)))
/-- o's object is asked, or told -/
theorem pz_o {x μ' : Nat} {as rest : List Value} {N' : Nat → Nat → List Nat} {Q : Int32 → Prop} (hi : (xmc μ)[pc]? = some (some (.invokevirtual x))) (hv : xinv (xmo μ) μ x st = some (1, μ', .ref (c + 1) :: as, rest)) (hd : xcod μ' = true) (hm : xmo μ' = 9) (hh : xmh μ = []) (ha : as.all xint = true) (hZ : Zs n D J P cl jc b c fn sh K M A N h)
    (hc : ∀ (s : yS) (Ψ : Option Value → yS → Prop), finF s n D J P cl jc (mM N) → (∀ v T, Q v → finF T n D J P cl jc (mM N') → Ψ (some (.int v)) T) → Yq sd μ' (.ref 0 :: as) s Ψ) (kk : ∀ v h', Q v → Zs n D J P cl jc b c fn sh K M A N' h' → h'.length = h.length → Px sd sd μ (pc + 3) lv (.int v :: rest) h' ks Φ) : Px sd sd μ pc lv st h ks Φ := by
  have hZ9 := hZ
  obtain ⟨z1, z2, z3, z4, z5, z6, z7, ⟨s, y1, y2⟩, _⟩ := hZ
  exact px_cls hi hv hd hm hh ha y1 (hc s _ y2 (fun v T hq hT => kk v _ hq (hZ9.o hT) (yput_len _ _ _)))
theorem pz_ol {x μ' : Nat} {as rest : List Value} {v : Int64} (hi : (xmc μ)[pc]? = some (some (.invokevirtual x))) (hv : xinv (xmo μ) μ x st = some (1, μ', .ref (c + 1) :: as, rest)) (hd : xcod μ' = true) (hm : xmo μ' = 9) (hh : xmh μ = []) (ha : as.all xint = true) (hZ : Zs n D J P cl jc b c fn sh K M A N h)
    (hc : ∀ (s : yS) (Ψ : Option Value → yS → Prop), finF s n D J P cl jc (mM N) → (∀ T, finF T n D J P cl jc (mM N) → Ψ (some (.long v)) T) → Yq sd μ' (.ref 0 :: as) s Ψ) (kk : ∀ h', Zs n D J P cl jc b c fn sh K M A N h' → h'.length = h.length → Px sd sd μ (pc + 3) lv (.long v :: rest) h' ks Φ) : Px sd sd μ pc lv st h ks Φ := by
  have hZ9 := hZ
  obtain ⟨z1, z2, z3, z4, z5, z6, z7, ⟨s, y1, y2⟩, _⟩ := hZ
  exact px_cls hi hv hd hm hh ha y1 (hc s _ y2 (fun T hT => kk _ (hZ9.o hT) (yput_len _ _ _)))
set_option maxHeartbeats 1000000 in
theorem lz_l1 {p KB HB SB : Nat} {vt : Int32} (hn1 : 1 ≤ n) (hn : n ≤ 7) (hD1 : 1 ≤ D) (hD : D ≤ 5) (hPe : P = Int32.ofNat p) (hp : p < 128) (hp0 : p ≠ 0) (hs : scl.length < 100000) (hKB : KB ≤ 7000) (kk : ∀ (K' : Nat) (M' : Nat → Nat → List Nat) (h' : xH) (ks' : Nat), K' ≤ KB → okT n D P M' → Zs n D J P cl jc b c fn sh K' M' M' N h' → h'.length ≤ HB → ks' ≤ SB → Px (some scl) (some scl) 111 116 [(0, .ref 0), (1, .int vt), (2, .ref b), (3, .ref c), (4, .ref (b + 1)), (5, .int (Int32.ofNat n))] [] h' ks' Φ) : ∀ (m9 i K : Nat) (M : Nat → Nat → List Nat) (h : xH) (ks : Nat), i + m9 = 10 → K + 9 * m9 ≤ KB → h.length + m9 ≤ HB → ks + 7 * m9 ≤ SB → okT n D P M → Zs n D J P cl jc b c fn sh K M M N h → Px (some scl) (some scl) 111 71 [(0, .ref 0), (1, .int vt), (2, .ref b), (3, .ref c), (4, .ref (b + 1)), (5, .int (Int32.ofNat n)), (6, .int (Int32.ofNat i))] [] h ks Φ := by
  intro m9
  induction m9 with
  | zero =>
    intro i K M h ks hi hK hh hk hM hZ
    have e : i = 10 := by omega
    subst e
    refine px_run 2 (pc' := 75) (lv' := [(0, .ref 0), (1, .int vt), (2, .ref b), (3, .ref c), (4, .ref (b + 1)), (5, .int (Int32.ofNat n)), (6, .int (Int32.ofNat 10))]) (st' := [.int (Int32.ofNat 10), .int (Int32.ofNat 10)]) rfl ?_
    refine px_icmp rfl rfl (fun hb => ?_) (fun hb => by cases hb)
    refine px_sel [0, 1, 2, 3, 4, 5] rfl ?_
    exact kk K M h ks (by omega) hM hZ (by omega) (by omega)
  | succ m9 ih =>
    intro i K M h ks hi hK hh hk hM hZ
    have x1 : drw scl K 7 < 7 := drw_lt (by decide)
    have x2 : drw scl (K + 1) D < D := drw_lt (by omega)
    have x3 : drw scl (K + 1 + 1) 4 < 4 := drw_lt (by decide)
    obtain ⟨j1, j2⟩ := pnl_tab p hp hp0 _ x1
    have hPj : hds P (Int32.ofNat (pnl p 7 (drw scl K 7))) := by rw [hPe]; exact hds_1 j1
    refine px_run 2 (pc' := 75) (lv' := [(0, .ref 0), (1, .int vt), (2, .ref b), (3, .ref c), (4, .ref (b + 1)), (5, .int (Int32.ofNat n)), (6, .int (Int32.ofNat i))]) (st' := [.int (Int32.ofNat 10), .int (Int32.ofNat i)]) rfl ?_
    refine px_icmp rfl rfl (fun hb => ?_) (fun hb => ?_)
    · have hb := xT (xc_ge _ _) hb
      rw [i32_to (by omega), i32_to (by omega)] at hb
      omega
    refine px_run 4 (pc' := 83) (lv' := [(0, .ref 0), (1, .int vt), (2, .ref b), (3, .ref c), (4, .ref (b + 1)), (5, .int (Int32.ofNat n)), (6, .int (Int32.ofNat i))]) (st' := [.int (Int32.ofNat 7), .ref b, .ref b, .ref b]) rfl ?_
    refine px_vi (as := [.ref b, .int (Int32.ofNat 7)]) (rest := [.ref b, .ref b]) rfl rfl (hZ.rec rfl) rfl rfl (cz_draw (by omega) (by omega) (by omega) hs hZ (fun h1 hZ1 l1 => ?_))
    show Px (some scl) (some scl) 111 86 _ [.int (Int32.ofNat (drw scl K 7)), .ref b, .ref b] h1 ks Φ
    refine px_vi (as := [.ref b, .int (Int32.ofNat (drw scl K 7))]) (rest := [.ref b]) rfl rfl (hZ1.rec rfl) rfl rfl (cz_panl hZ1 hPe hp hp0 x1 ?_)
    show Px (some scl) (some scl) 111 89 _ [.int (Int32.ofNat (pnl p 7 (drw scl K 7))), .ref b] h1 ks Φ
    refine px_run 2 (pc' := 91) (lv' := [(0, .ref 0), (1, .int vt), (2, .ref b), (3, .ref c), (4, .ref (b + 1)), (5, .int (Int32.ofNat n)), (6, .int (Int32.ofNat i))]) (st' := [.ref b, .ref b, .int (Int32.ofNat (pnl p 7 (drw scl K 7))), .ref b]) rfl ?_
    refine px_gt rfl rfl hZ1 (fun _ _ _ _ _ => rfl) ?_
    refine px_vi (as := [.ref b, .int (Int32.ofNat D)]) (rest := [.int (Int32.ofNat (pnl p 7 (drw scl K 7))), .ref b]) rfl rfl (hZ1.rec rfl) rfl rfl (cz_draw (by omega) (by omega) (by omega) hs hZ1 (fun h2 hZ2 l2 => ?_))
    show Px (some scl) (some scl) 111 97 _ [.int (Int32.ofNat (drw scl (K + 1) D)), .int (Int32.ofNat (pnl p 7 (drw scl K 7))), .ref b] h2 ks Φ
    refine px_run 2 (pc' := 99) (lv' := [(0, .ref 0), (1, .int vt), (2, .ref b), (3, .ref c), (4, .ref (b + 1)), (5, .int (Int32.ofNat n)), (6, .int (Int32.ofNat i))]) (st' := [.int (Int32.ofNat 4), .ref b, .int (Int32.ofNat (drw scl (K + 1) D)), .int (Int32.ofNat (pnl p 7 (drw scl K 7))), .ref b]) rfl ?_
    refine px_vi (as := [.ref b, .int (Int32.ofNat 4)]) (rest := [.int (Int32.ofNat (drw scl (K + 1) D)), .int (Int32.ofNat (pnl p 7 (drw scl K 7))), .ref b]) rfl rfl (hZ2.rec rfl) rfl rfl (cz_draw (by omega) (by omega) (by omega) hs hZ2 (fun h3 hZ3 l3 => ?_))
    show Px (some scl) (some scl) 111 102 _ [.int (Int32.ofNat (drw scl (K + 1 + 1) 4)), .int (Int32.ofNat (drw scl (K + 1) D)), .int (Int32.ofNat (pnl p 7 (drw scl K 7))), .ref b] h3 ks Φ
    generalize pnl p 7 (drw scl K 7) = j at *
    generalize drw scl (K + 1) D = d at *
    generalize drw scl (K + 1 + 1) 4 = mx at *
    refine px_vi (as := [.ref b, .int (Int32.ofNat j), .int (Int32.ofNat d), .int (Int32.ofNat mx)]) (rest := []) rfl rfl (hZ3.rec rfl) rfl rfl (cz_shet hn1 hn hD j2 x2 (by omega) (by omega) hs hPj hM.1 hZ3 (fun h4 L hL hZ4 l4 => ?_))
    show Px (some scl) (some scl) 111 105 _ [.int 1] h4 (ks + n) Φ
    refine px_if rfl rfl (fun hb => ?_) (fun hb => by cases hb)
    refine px_run 2 (pc' := 71) (lv' := [(6, .int ((Int32.ofNat i) + 1)), (0, .ref 0), (1, .int vt), (2, .ref b), (3, .ref c), (4, .ref (b + 1)), (5, .int (Int32.ofNat n))]) (st' := []) rfl ?_
    rw [i32_s]
    refine px_sel [0, 1, 2, 3, 4, 5, 6] rfl ?_
    exact ih (i + 1) _ _ h4 (ks + n) (by omega) (by omega) (by omega) (by omega) (okT_up hM j2 x2 hPj hL) hZ4
/-- told to o: those of judges from f on -/
def roM (M : Nat → Nat → List Nat) (f : Nat) : Nat → Nat → List Nat := fun a e => if f ≤ a then M a e else []
def riM (M : Nat → Nat → List Nat) (j d : Nat) : Nat → Nat → List Nat := fun a e => if j < a ∨ (a = j ∧ e < d) then M a e else []
theorem riM_0 (M : Nat → Nat → List Nat) (j : Nat) : riM M j 0 = roM M (j + 1) := by
  funext a e
  unfold riM roM
  by_cases h1 : j + 1 ≤ a
  · rw [if_pos h1, if_pos (Or.inl (by omega))]
  · rw [if_neg h1, if_neg (by omega)]
theorem riM_D {j : Nat} (hM : okT n D P M) : riM M j D = roM M j := by
  funext a e
  unfold riM roM
  by_cases h1 : j ≤ a
  · rw [if_pos h1]
    by_cases h2 : j < a ∨ (a = j ∧ e < D)
    · rw [if_pos h2]
    · rw [if_neg h2, hM.no (by omega)]
  · rw [if_neg h1, if_neg (by omega)]
theorem riM_s (M : Nat → Nat → List Nat) (j d : Nat) : upM (riM M j d) j d (M j d) = riM M j (d + 1) := by
  funext a e
  unfold upM riM
  by_cases h1 : a = j ∧ e = d
  · obtain ⟨rfl, rfl⟩ := h1
    rw [if_pos ⟨rfl, rfl⟩, if_pos (Or.inr ⟨rfl, Nat.lt_succ_self _⟩)]
  · rw [if_neg h1]
    by_cases h2 : j < a ∨ (a = j ∧ e < d)
    · rw [if_pos h2, if_pos (by omega)]
    · rw [if_neg h2, if_neg (by omega)]
theorem riM_k {j d : Nat} (he : M j d = []) : riM M j d = riM M j (d + 1) := by
  funext a e
  unfold riM
  by_cases h2 : j < a ∨ (a = j ∧ e < d)
  · rw [if_pos h2, if_pos (by omega)]
  · rw [if_neg h2]
    by_cases h3 : j < a ∨ (a = j ∧ e < d + 1)
    · have e1 : a = j := by omega
      have e2 : e = d := by omega
      rw [if_pos h3, e1, e2, he]
    · rw [if_neg h3]
theorem okM_ri {j d : Nat} (hM : okM n M) : okM n (riM M j d) := by
  intro a e
  unfold riM
  by_cases h : j < a ∨ (a = j ∧ e < d)
  · rw [if_pos h]
    exact hM a e
  · rw [if_neg h]
    exact Or.inl rfl
theorem roM_0 (M : Nat → Nat → List Nat) : roM M 0 = M := by
  funext a e
  exact if_pos (Nat.zero_le a)
theorem roM_7 (hM : okT n D P M) : roM M 7 = fun _ _ => [] := by
  funext a e
  unfold roM
  by_cases h : 7 ≤ a
  · rw [if_pos h, hM.no (by omega)]
  · rw [if_neg h]
set_option maxHeartbeats 1000000 in
theorem lz_l2i {j HB : Nat} {vt : Int32} (hn1 : 1 ≤ n) (hn : n ≤ 7) (hD : D ≤ 5) (hM : okT n D P M) (hj : j < 7) (kk : ∀ h', Zs n D J P cl jc b c fn sh K M M (riM M j D) h' → h'.length ≤ HB → Px (some scl) (some scl) 111 183 [(0, .ref 0), (1, .int vt), (2, .ref b), (3, .ref c), (4, .ref (b + 1)), (5, .int (Int32.ofNat n)), (6, .int (Int32.ofNat j))] [] h' ks Φ) : ∀ (m9 d : Nat) (h : xH), d + m9 = D → h.length ≤ HB → Zs n D J P cl jc b c fn sh K M M (riM M j d) h → Px (some scl) (some scl) 111 128 [(0, .ref 0), (1, .int vt), (2, .ref b), (3, .ref c), (4, .ref (b + 1)), (5, .int (Int32.ofNat n)), (6, .int (Int32.ofNat j)), (7, .int (Int32.ofNat d))] [] h ks Φ := by
  intro m9
  induction m9 with
  | zero =>
    intro d h hd hh hZ
    have e : d = D := by omega
    subst e
    refine px_run 2 (pc' := 131) (lv' := [(0, .ref 0), (1, .int vt), (2, .ref b), (3, .ref c), (4, .ref (b + 1)), (5, .int (Int32.ofNat n)), (6, .int (Int32.ofNat j)), (7, .int (Int32.ofNat d))]) (st' := [.ref b, .int (Int32.ofNat d)]) rfl ?_
    refine px_gt rfl rfl hZ (fun _ _ _ _ _ => rfl) ?_
    refine px_icmp rfl rfl (fun hb => ?_) (fun hb => ?_)
    · refine px_sel [0, 1, 2, 3, 4, 5, 6] rfl ?_
      exact kk h hZ hh
    · have hb := xN (xc_ge _ _) hb
      omega
  | succ m9 ih =>
    intro d h hd hh hZ
    refine px_run 2 (pc' := 131) (lv' := [(0, .ref 0), (1, .int vt), (2, .ref b), (3, .ref c), (4, .ref (b + 1)), (5, .int (Int32.ofNat n)), (6, .int (Int32.ofNat j)), (7, .int (Int32.ofNat d))]) (st' := [.ref b, .int (Int32.ofNat d)]) rfl ?_
    refine px_gt rfl rfl hZ (fun _ _ _ _ _ => rfl) ?_
    refine px_icmp rfl rfl (fun hb => ?_) (fun hb => ?_)
    · have hb := xT (xc_ge _ _) hb
      rw [i32_to (by omega), i32_to (by omega)] at hb
      omega
    refine px_run 1 (pc' := 138) (lv' := [(0, .ref 0), (1, .int vt), (2, .ref b), (3, .ref c), (4, .ref (b + 1)), (5, .int (Int32.ofNat n)), (6, .int (Int32.ofNat j)), (7, .int (Int32.ofNat d))]) (st' := [.ref b]) rfl ?_
    refine px_gt rfl rfl hZ (fun _ _ _ _ _ => rfl) ?_
    refine px_run 1 (pc' := 143) (lv' := [(0, .ref 0), (1, .int vt), (2, .ref b), (3, .ref c), (4, .ref (b + 1)), (5, .int (Int32.ofNat n)), (6, .int (Int32.ofNat j)), (7, .int (Int32.ofNat d))]) (st' := [.int (Int32.ofNat j), .ref sh]) rfl ?_
    refine px_row rfl hj hZ ?_
    refine px_run 1 (pc' := 146) (lv' := [(0, .ref 0), (1, .int vt), (2, .ref b), (3, .ref c), (4, .ref (b + 1)), (5, .int (Int32.ofNat n)), (6, .int (Int32.ofNat j)), (7, .int (Int32.ofNat d))]) (st' := [.int (Int32.ofNat d), .ref (sh + 1 + j * 6)]) rfl ?_
    refine px_mks rfl hj (by omega) hZ (fun q hq gq => ?_)
    refine px_al rfl gq (by decide) ?_
    rw [mks_len]
    have hln := okM_len hM.1 j d
    refine px_if rfl rfl (fun hb => ?_) (fun hb => ?_)
    · have hb := xT (xc_le _ _) hb
      rw [i32_to (by omega), Int32.toInt_zero] at hb
      have e : M j d = [] := List.length_eq_zero_iff.mp (by omega)
      refine px_run 2 (pc' := 128) (lv' := [(7, .int ((Int32.ofNat d) + 1)), (0, .ref 0), (1, .int vt), (2, .ref b), (3, .ref c), (4, .ref (b + 1)), (5, .int (Int32.ofNat n)), (6, .int (Int32.ofNat j))]) (st' := []) rfl ?_
      rw [i32_s]
      refine px_sel [0, 1, 2, 3, 4, 5, 6, 7] rfl ?_
      exact ih (d + 1) h (by omega) hh (by rw [← riM_k e]; exact hZ)
    · have hb := xN (xc_le _ _) hb
      rw [i32_to (by omega), Int32.toInt_zero] at hb
      have e : M j d ≠ [] := fun z => by rw [z] at hb; simp at hb
      have hS := (hM.1 j d).resolve_left e
      obtain ⟨t1, t2, t3⟩ := hM.2 j d e
      refine px_run 1 (pc' := 152) (lv' := [(0, .ref 0), (1, .int vt), (2, .ref b), (3, .ref c), (4, .ref (b + 1)), (5, .int (Int32.ofNat n)), (6, .int (Int32.ofNat j)), (7, .int (Int32.ofNat d))]) (st' := [.ref c]) rfl ?_
      refine px_go rfl rfl hZ ?_
      refine px_run 3 (pc' := 160) (lv' := [(0, .ref 0), (1, .int vt), (2, .ref b), (3, .ref c), (4, .ref (b + 1)), (5, .int (Int32.ofNat n)), (6, .int (Int32.ofNat j)), (7, .int (Int32.ofNat d))]) (st' := [.ref b, .int (Int32.ofNat d), .int (Int32.ofNat j), .ref (c + 1)]) rfl ?_
      refine px_gt rfl rfl hZ (fun _ _ _ _ _ => rfl) ?_
      refine px_run 1 (pc' := 165) (lv' := [(0, .ref 0), (1, .int vt), (2, .ref b), (3, .ref c), (4, .ref (b + 1)), (5, .int (Int32.ofNat n)), (6, .int (Int32.ofNat j)), (7, .int (Int32.ofNat d))]) (st' := [.int (Int32.ofNat j), .ref sh, .int (Int32.ofNat d), .int (Int32.ofNat j), .ref (c + 1)]) rfl ?_
      refine px_row rfl hj hZ ?_
      refine px_run 1 (pc' := 168) (lv' := [(0, .ref 0), (1, .int vt), (2, .ref b), (3, .ref c), (4, .ref (b + 1)), (5, .int (Int32.ofNat n)), (6, .int (Int32.ofNat j)), (7, .int (Int32.ofNat d))]) (st' := [.int (Int32.ofNat d), .ref (sh + 1 + j * 6), .int (Int32.ofNat d), .int (Int32.ofNat j), .ref (c + 1)]) rfl ?_
      refine px_mks rfl hj (by omega) hZ (fun q2 hq2 gq2 => ?_)
      refine px_st (as := [.ref (c + 1), .int (Int32.ofNat j), .int (Int32.ofNat d), .ref q2]) (rest := []) rfl rfl rfl rfl rfl (cz_same hn1 hn hD hj t2 t3 (okM_ri hM.1) hS gq2 hZ (fun h1 hZ1 l1 => ?_))
      show Px (some scl) (some scl) 111 172 _ [.int 1] h1 ks Φ
      refine px_if rfl rfl (fun hb => ?_) (fun hb => by cases hb)
      refine px_run 2 (pc' := 128) (lv' := [(7, .int ((Int32.ofNat d) + 1)), (0, .ref 0), (1, .int vt), (2, .ref b), (3, .ref c), (4, .ref (b + 1)), (5, .int (Int32.ofNat n)), (6, .int (Int32.ofNat j))]) (st' := []) rfl ?_
      rw [i32_s]
      refine px_sel [0, 1, 2, 3, 4, 5, 6, 7] rfl ?_
      exact ih (d + 1) h1 (by omega) (by omega) (by rw [← riM_s]; exact hZ1)
theorem lz_l2 {HB : Nat} {vt : Int32} (hn1 : 1 ≤ n) (hn : n ≤ 7) (hD : D ≤ 5) (hM : okT n D P M) (kk : ∀ h', Zs n D J P cl jc b c fn sh K M M M h' → h'.length ≤ HB → Px (some scl) (some scl) 111 189 [(0, .ref 0), (1, .int vt), (2, .ref b), (3, .ref c), (4, .ref (b + 1)), (5, .int (Int32.ofNat n))] [] h' ks Φ) : ∀ (f : Nat) (h : xH), f ≤ 7 → h.length ≤ HB → Zs n D J P cl jc b c fn sh K M M (roM M f) h → Px (some scl) (some scl) 111 120 [(0, .ref 0), (1, .int vt), (2, .ref b), (3, .ref c), (4, .ref (b + 1)), (5, .int (Int32.ofNat n)), (6, .int (Int32.ofNat f - 1))] [] h ks Φ := by
  intro f
  induction f with
  | zero =>
    intro h hf hh hZ
    refine px_run 1 (pc' := 122) (lv' := [(0, .ref 0), (1, .int vt), (2, .ref b), (3, .ref c), (4, .ref (b + 1)), (5, .int (Int32.ofNat n)), (6, .int (Int32.ofNat 0 - 1))]) (st' := [.int (Int32.ofNat 0 - 1)]) rfl ?_
    refine px_if rfl rfl (fun hb => ?_) (fun hb => by cases hb)
    refine px_sel [0, 1, 2, 3, 4, 5] rfl ?_
    rw [roM_0] at hZ
    exact kk h hZ hh
  | succ f ih =>
    intro h hf hh hZ
    rw [pred1]
    refine px_run 1 (pc' := 122) (lv' := [(0, .ref 0), (1, .int vt), (2, .ref b), (3, .ref c), (4, .ref (b + 1)), (5, .int (Int32.ofNat n)), (6, .int (Int32.ofNat f))]) (st' := [.int (Int32.ofNat f)]) rfl ?_
    refine px_if rfl rfl (fun hb => ?_) (fun hb => ?_)
    · have hb := xT (xc_lt _ _) hb
      rw [i32_to (by omega), Int32.toInt_zero] at hb
      omega
    refine px_run 2 (pc' := 128) (lv' := [(7, .int (Int32.ofNat 0)), (0, .ref 0), (1, .int vt), (2, .ref b), (3, .ref c), (4, .ref (b + 1)), (5, .int (Int32.ofNat n)), (6, .int (Int32.ofNat f))]) (st' := []) rfl ?_
    refine px_sel [0, 1, 2, 3, 4, 5, 6, 7] rfl ?_
    refine lz_l2i hn1 hn hD hM (by omega) (fun h1 hZ1 l1 => ?_) D 0 h (Nat.zero_add D) hh (by rw [riM_0]; exact hZ)
    refine px_run 2 (pc' := 120) (lv' := [(6, .int ((Int32.ofNat f) + (-1))), (0, .ref 0), (1, .int vt), (2, .ref b), (3, .ref c), (4, .ref (b + 1)), (5, .int (Int32.ofNat n))]) (st' := []) rfl ?_
    rw [← Int32.sub_eq_add_neg]
    refine px_sel [0, 1, 2, 3, 4, 5, 6] rfl ?_
    exact ih h1 (by omega) l1 (by rw [← riM_D hM]; exact hZ1)
end YBB
