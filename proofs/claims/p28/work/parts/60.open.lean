/-! the panel told; an event told -/
section YAM
variable {sd : Option (List Int32)} {scl : List Int32} {μ pc : Nat} {lv : xL} {st : List Value} {h : xH} {ks : Nat} {Φ : xO → Prop}
abbrev Pt (_ : Nat) : Prop := True
theorem lz_setA {b q : Nat} {s5 x : Int32} {F : List Int32} (h3 : 1 ≤ F.length) (hF : F.length < 1000) (hq : xget h q = some (100, ivs F)) : ∀ (R P : List Int32) (a : Int32), F.take (kOf F.length) = P ++ R → Φ (none, some (.int (sSum R a)), h, ks) → Px (some scl) (some scl) 99 87 [(4, .int (Int32.ofNat P.length)), (3, .int a), (5, .int s5), (2, .ref q), (0, .ref b), (1, .int x)] [] h ks Φ := by
  have hl : (ivs F).length = F.length := by simp
  have hk1 : kOf F.length ≤ F.length := by unfold kOf; omega
  have hrl : (F.take (kOf F.length)).length = kOf F.length := by rw [List.length_take, Nat.min_eq_left hk1]
  -- the bound
  have hbd : ∀ (p : Nat) (a : Int32), p < 1000 → Px (some scl) (some scl) 99 104 [(4, .int (Int32.ofNat p)), (3, .int a), (5, .int s5), (2, .ref q), (0, .ref b), (1, .int x)] [.int (Int32.ofNat (kOf F.length)), .int (Int32.ofNat p)] h ks Φ → Px (some scl) (some scl) 99 87 [(4, .int (Int32.ofNat p)), (3, .int a), (5, .int s5), (2, .ref q), (0, .ref b), (1, .int x)] [] h ks Φ := by
    intro p a hp kk
    refine px_step (pc' := 89) (st' := [.int (Int32.ofNat p)]) rfl rfl rfl ?_
    refine px_step (pc' := 90) (st' := [.ref q, .int (Int32.ofNat p)]) rfl rfl rfl ?_
    refine px_al rfl hq (by decide) ?_
    rw [hl]
    refine px_step (pc' := 92) (st' := [.ref q, .int (Int32.ofNat F.length), .int (Int32.ofNat p)]) rfl rfl rfl ?_
    refine px_al rfl hq (by decide) ?_
    rw [hl]
    refine px_step (pc' := 94) (st' := [.int (Int32.ofNat 2), .int (Int32.ofNat F.length), .int (Int32.ofNat F.length), .int (Int32.ofNat p)]) rfl rfl rfl ?_
    refine px_step (pc' := 95) (st' := [.int (Int32.ofNat F.length - Int32.ofNat F.length / Int32.ofNat 2 * Int32.ofNat 2), .int (Int32.ofNat F.length), .int (Int32.ofNat p)]) rfl rfl rfl ?_
    rw [remN (by omega) (by decide) (by decide)]
    have he : F.length % 2 = 0 ∨ F.length % 2 = 1 := by omega
    rcases he with he | he
    · have e : kOf F.length = F.length - 1 := by unfold kOf; rw [if_pos he]
      rw [he]
      refine px_if rfl rfl (fun hb => by cases hb) (fun hb => ?_)
      refine px_step (pc' := 99) (st' := [.int (Int32.ofNat 1), .int (Int32.ofNat F.length), .int (Int32.ofNat p)]) rfl rfl rfl ?_
      refine px_step (pc' := 103) (st' := [.int (Int32.ofNat 1), .int (Int32.ofNat F.length), .int (Int32.ofNat p)]) rfl rfl rfl ?_
      refine px_step (pc' := 104) (st' := [.int (Int32.ofNat F.length - Int32.ofNat 1), .int (Int32.ofNat p)]) rfl rfl rfl ?_
      rw [subN h3, ← e]
      exact kk
    · have e : kOf F.length = F.length := by unfold kOf; rw [if_neg (by omega)]; rfl
      rw [he]
      refine px_if rfl rfl (fun hb => ?_) (fun hb => by cases hb)
      refine px_step (pc' := 103) (st' := [.int (Int32.ofNat 0), .int (Int32.ofNat F.length), .int (Int32.ofNat p)]) rfl rfl rfl ?_
      refine px_step (pc' := 104) (st' := [.int (Int32.ofNat F.length - Int32.ofNat 0), .int (Int32.ofNat p)]) rfl rfl rfl ?_
      rw [subN (Nat.zero_le _), Nat.sub_zero, show Int32.ofNat F.length = Int32.ofNat (kOf F.length) by rw [e]]
      exact kk
  intro R
  induction R with
  | nil =>
    intro P a hP kk
    have e : P.length = kOf F.length := by rw [← hrl, hP, List.append_nil]
    refine hbd P.length a (by omega) ?_
    rw [e]
    refine px_icmp rfl rfl (fun hb => ?_) (fun hb => ?_)
    · refine px_step (pc' := 123) (st' := [.int a]) rfl rfl rfl ?_
      exact px_ret rfl rfl (xex_int rfl) kk
    · have hb := xN (xc_ge _ _) hb
      omega
  | cons v r ih =>
    intro P a hP kk
    have e : P.length < kOf F.length := by rw [← hrl, hP, List.length_append, List.length_cons]; omega
    refine hbd P.length a (by omega) ?_
    refine px_icmp rfl rfl (fun hb => ?_) (fun hb => ?_)
    · have hb := xT (xc_ge _ _) hb
      rw [i32_to (by omega), i32_to (by omega)] at hb
      omega
    have hv : (ivs F)[P.length]? = some (.int v) := by
      have h1 : (F.take (kOf F.length))[P.length]? = some v := by rw [hP]; simp
      rw [List.getElem?_take_of_lt e] at h1
      simp [h1]
    refine px_step (pc' := 108) (st' := [.int a]) rfl rfl rfl ?_
    refine px_step (pc' := 109) (st' := [.int 1, .int a]) rfl rfl rfl ?_
    refine px_step (pc' := 110) (st' := [.ref q, .int 1, .int a]) rfl rfl rfl ?_
    refine px_step (pc' := 112) (st' := [.int (Int32.ofNat P.length), .ref q, .int 1, .int a]) rfl rfl rfl ?_
    refine px_ial (v := .int v) rfl hq (by rw [hl]; omega) hv ?_
    refine px_step (pc' := 114) (st' := [.int (1 <<< (v &&& 31)), .int a]) rfl rfl rfl ?_
    refine px_step (pc' := 115) (st' := [.int (a + (1 <<< (v &&& 31)))]) rfl rfl rfl ?_
    refine px_step (pc' := 116) (lv' := [(3, .int (a + (1 <<< (v &&& 31)))), (4, .int (Int32.ofNat P.length)), (5, .int s5), (2, .ref q), (0, .ref b), (1, .int x)]) (st' := []) rfl rfl rfl ?_
    refine px_step (pc' := 119) (lv' := [(4, .int (Int32.ofNat (P.length + 1))), (3, .int (a + (1 <<< (v &&& 31)))), (5, .int s5), (2, .ref q), (0, .ref b), (1, .int x)]) (st' := []) (h' := h) (ks' := ks) rfl rfl (by rw [← i32_s]; rfl) ?_
    refine px_step (pc' := 87) (st' := []) rfl rfl rfl ?_
    have := ih (P ++ [v]) (a + (1 <<< (v &&& 31))) (by rw [hP, List.append_assoc]; rfl) kk
    rw [List.length_append] at this
    exact this
theorem lz_setB {b q : Nat} {s5 x : Int32} {F : List Int32} (h3 : 1 ≤ F.length) (hF : F.length < 1000) (hq : xget h q = some (100, ivs F)) : ∀ (R P : List Int32) (a : Int32), F.take (kOf F.length) = P ++ R → Φ (none, some (.int (sSum R a)), h, ks) → Px (some scl) (some scl) 99 87 [(4, .int (Int32.ofNat P.length)), (3, .int a), (2, .ref q), (5, .int s5), (0, .ref b), (1, .int x)] [] h ks Φ := by
  have hl : (ivs F).length = F.length := by simp
  have hk1 : kOf F.length ≤ F.length := by unfold kOf; omega
  have hrl : (F.take (kOf F.length)).length = kOf F.length := by rw [List.length_take, Nat.min_eq_left hk1]
  -- the bound
  have hbd : ∀ (p : Nat) (a : Int32), p < 1000 → Px (some scl) (some scl) 99 104 [(4, .int (Int32.ofNat p)), (3, .int a), (2, .ref q), (5, .int s5), (0, .ref b), (1, .int x)] [.int (Int32.ofNat (kOf F.length)), .int (Int32.ofNat p)] h ks Φ → Px (some scl) (some scl) 99 87 [(4, .int (Int32.ofNat p)), (3, .int a), (2, .ref q), (5, .int s5), (0, .ref b), (1, .int x)] [] h ks Φ := by
    intro p a hp kk
    refine px_step (pc' := 89) (st' := [.int (Int32.ofNat p)]) rfl rfl rfl ?_
    refine px_step (pc' := 90) (st' := [.ref q, .int (Int32.ofNat p)]) rfl rfl rfl ?_
    refine px_al rfl hq (by decide) ?_
    rw [hl]
    refine px_step (pc' := 92) (st' := [.ref q, .int (Int32.ofNat F.length), .int (Int32.ofNat p)]) rfl rfl rfl ?_
    refine px_al rfl hq (by decide) ?_
    rw [hl]
    refine px_step (pc' := 94) (st' := [.int (Int32.ofNat 2), .int (Int32.ofNat F.length), .int (Int32.ofNat F.length), .int (Int32.ofNat p)]) rfl rfl rfl ?_
    refine px_step (pc' := 95) (st' := [.int (Int32.ofNat F.length - Int32.ofNat F.length / Int32.ofNat 2 * Int32.ofNat 2), .int (Int32.ofNat F.length), .int (Int32.ofNat p)]) rfl rfl rfl ?_
    rw [remN (by omega) (by decide) (by decide)]
    have he : F.length % 2 = 0 ∨ F.length % 2 = 1 := by omega
    rcases he with he | he
    · have e : kOf F.length = F.length - 1 := by unfold kOf; rw [if_pos he]
      rw [he]
      refine px_if rfl rfl (fun hb => by cases hb) (fun hb => ?_)
      refine px_step (pc' := 99) (st' := [.int (Int32.ofNat 1), .int (Int32.ofNat F.length), .int (Int32.ofNat p)]) rfl rfl rfl ?_
      refine px_step (pc' := 103) (st' := [.int (Int32.ofNat 1), .int (Int32.ofNat F.length), .int (Int32.ofNat p)]) rfl rfl rfl ?_
      refine px_step (pc' := 104) (st' := [.int (Int32.ofNat F.length - Int32.ofNat 1), .int (Int32.ofNat p)]) rfl rfl rfl ?_
      rw [subN h3, ← e]
      exact kk
    · have e : kOf F.length = F.length := by unfold kOf; rw [if_neg (by omega)]; rfl
      rw [he]
      refine px_if rfl rfl (fun hb => ?_) (fun hb => by cases hb)
      refine px_step (pc' := 103) (st' := [.int (Int32.ofNat 0), .int (Int32.ofNat F.length), .int (Int32.ofNat p)]) rfl rfl rfl ?_
      refine px_step (pc' := 104) (st' := [.int (Int32.ofNat F.length - Int32.ofNat 0), .int (Int32.ofNat p)]) rfl rfl rfl ?_
      rw [subN (Nat.zero_le _), Nat.sub_zero, show Int32.ofNat F.length = Int32.ofNat (kOf F.length) by rw [e]]
      exact kk
  intro R
  induction R with
  | nil =>
    intro P a hP kk
    have e : P.length = kOf F.length := by rw [← hrl, hP, List.append_nil]
    refine hbd P.length a (by omega) ?_
    rw [e]
    refine px_icmp rfl rfl (fun hb => ?_) (fun hb => ?_)
    · refine px_step (pc' := 123) (st' := [.int a]) rfl rfl rfl ?_
      exact px_ret rfl rfl (xex_int rfl) kk
    · have hb := xN (xc_ge _ _) hb
      omega
  | cons v r ih =>
    intro P a hP kk
    have e : P.length < kOf F.length := by rw [← hrl, hP, List.length_append, List.length_cons]; omega
    refine hbd P.length a (by omega) ?_
    refine px_icmp rfl rfl (fun hb => ?_) (fun hb => ?_)
    · have hb := xT (xc_ge _ _) hb
      rw [i32_to (by omega), i32_to (by omega)] at hb
      omega
    have hv : (ivs F)[P.length]? = some (.int v) := by
      have h1 : (F.take (kOf F.length))[P.length]? = some v := by rw [hP]; simp
      rw [List.getElem?_take_of_lt e] at h1
      simp [h1]
    refine px_step (pc' := 108) (st' := [.int a]) rfl rfl rfl ?_
    refine px_step (pc' := 109) (st' := [.int 1, .int a]) rfl rfl rfl ?_
    refine px_step (pc' := 110) (st' := [.ref q, .int 1, .int a]) rfl rfl rfl ?_
    refine px_step (pc' := 112) (st' := [.int (Int32.ofNat P.length), .ref q, .int 1, .int a]) rfl rfl rfl ?_
    refine px_ial (v := .int v) rfl hq (by rw [hl]; omega) hv ?_
    refine px_step (pc' := 114) (st' := [.int (1 <<< (v &&& 31)), .int a]) rfl rfl rfl ?_
    refine px_step (pc' := 115) (st' := [.int (a + (1 <<< (v &&& 31)))]) rfl rfl rfl ?_
    refine px_step (pc' := 116) (lv' := [(3, .int (a + (1 <<< (v &&& 31)))), (4, .int (Int32.ofNat P.length)), (2, .ref q), (5, .int s5), (0, .ref b), (1, .int x)]) (st' := []) rfl rfl rfl ?_
    refine px_step (pc' := 119) (lv' := [(4, .int (Int32.ofNat (P.length + 1))), (3, .int (a + (1 <<< (v &&& 31)))), (2, .ref q), (5, .int s5), (0, .ref b), (1, .int x)]) (st' := []) (h' := h) (ks' := ks) rfl rfl (by rw [← i32_s]; rfl) ?_
    refine px_step (pc' := 87) (st' := []) rfl rfl rfl ?_
    have := ih (P ++ [v]) (a + (1 <<< (v &&& 31))) (by rw [hP, List.append_assoc]; rfl) kk
    rw [List.length_append] at this
    exact this
set_option maxHeartbeats 1000000 in
theorem lz_pan {en da : Int32} {b n D cl ju : Nat} {C J : List Int32} (hn : C.length = n) (hn8 : n < 8) (hJ7 : J.length ≤ 7) : ∀ (R P F : List Int32) (h : xH) (ks q : Nat), J = P ++ R → xget h b = some (10, tfX b D cl ju en da) → xget h cl = some (100, ivs C) → xget h ju = some (100, ivs J) → xget h q = some (100, ivs F) → F.length ≤ P.length → (∀ h' ks' q', xget h' q' = some (100, ivs (fRec (R.map (isB C)) P.length F)) → Fr Pt R.length (8 * R.length) h ks h' ks' → (∀ s5 s4, Px (some scl) (some scl) 99 82 [(3, .int (Int32.ofNat J.length)), (5, .int s5), (4, .int s4), (2, .ref q'), (0, .ref b), (1, .int (all (Int32.ofNat n)))] [] h' ks' Φ) ∧ (∀ s5 s4, Px (some scl) (some scl) 99 82 [(3, .int (Int32.ofNat J.length)), (2, .ref q'), (5, .int s5), (4, .int s4), (0, .ref b), (1, .int (all (Int32.ofNat n)))] [] h' ks' Φ)) → (∀ s5 s4, Px (some scl) (some scl) 99 6 [(3, .int (Int32.ofNat P.length)), (5, .int s5), (4, .int s4), (2, .ref q), (0, .ref b), (1, .int (all (Int32.ofNat n)))] [] h ks Φ) ∧ (∀ s5 s4, Px (some scl) (some scl) 99 6 [(3, .int (Int32.ofNat P.length)), (2, .ref q), (5, .int s5), (4, .int s4), (0, .ref b), (1, .int (all (Int32.ofNat n)))] [] h ks Φ) := by
  have hJl : (ivs J).length = J.length := by simp
  intro R
  induction R with
  | nil =>
    intro P F h ks q hP hg hc hju hq hFl kk
    have e : P.length = J.length := by rw [hP, List.append_nil]
    have kk := kk h ks q hq Fr.refl
    refine ⟨fun s5 s4 => ?_, fun s5 s4 => ?_⟩
    · skip
      refine px_step (pc' := 7) (st' := [.int (Int32.ofNat P.length)]) rfl rfl rfl ?_
      refine px_step (pc' := 8) (st' := [.ref b, .int (Int32.ofNat P.length)]) rfl rfl rfl ?_
      refine px_gf rfl rfl hg rfl ?_
      refine px_al rfl hju (by decide) ?_
      rw [hJl, e]
      refine px_icmp rfl rfl (fun hb => kk.1 s5 s4) (fun hb => ?_)
      have hb := xN (xc_ge _ _) hb
      omega
    · skip
      refine px_step (pc' := 7) (st' := [.int (Int32.ofNat P.length)]) rfl rfl rfl ?_
      refine px_step (pc' := 8) (st' := [.ref b, .int (Int32.ofNat P.length)]) rfl rfl rfl ?_
      refine px_gf rfl rfl hg rfl ?_
      refine px_al rfl hju (by decide) ?_
      rw [hJl, e]
      refine px_icmp rfl rfl (fun hb => kk.2 s5 s4) (fun hb => ?_)
      have hb := xN (xc_ge _ _) hb
      omega
  | cons v r ih =>
    intro P F h ks q hP hg hc hju hq hFl kk
    have e : P.length < J.length := by rw [hP, List.length_append, List.length_cons]; omega
    have hjv : J[P.length]? = some v := by rw [hP]; simp
    have hin : Px (some scl) (some scl) 99 21 [(5, .int (Int32.ofNat 0)), (4, .int 1), (3, .int (Int32.ofNat P.length)), (2, .ref q), (0, .ref b), (1, .int (all (Int32.ofNat n)))] [] h ks Φ := by
      refine lz_pin (w := 0) (P := []) hn hn8 hjv (by omega) hg hc hju C [] 1 rfl (Or.inr rfl) ?_
      rw [isR_B]
      refine px_step (pc' := 67) (st' := [.int (bif isB C v then 1 else 0)]) rfl rfl rfl ?_
      cases ht : isB C v
      · refine px_if rfl rfl (fun hb => ?_) (fun hb => by cases hb)
        refine px_step (pc' := 79) (lv' := [(3, .int (Int32.ofNat (P.length + 1))), (5, .int (Int32.ofNat n)), (4, .int 0), (2, .ref q), (0, .ref b), (1, .int (all (Int32.ofNat n)))]) (st' := []) (h' := h) (ks' := ks) rfl rfl (by rw [← i32_s]; rfl) ?_
        refine px_step (pc' := 6) (st' := []) rfl rfl rfl ?_
        rw [show P.length + 1 = (P ++ [v]).length by rw [List.length_append]; rfl]
        refine (ih (P ++ [v]) F h ks q (by rw [hP, List.append_assoc]; rfl) hg hc hju hq (by rw [List.length_append]; omega) (fun h' ks' q' w1 w2 => ?_)).1 _ _
        have w1' : xget h' q' = some (100, ivs (fRec ((v :: r).map (isB C)) P.length F)) := by
          show xget h' q' = some (100, ivs (fRec (r.map (isB C)) (P.length + 1) (bif isB C v then F ++ [Int32.ofNat P.length] else F)))
          rw [ht]
          rw [List.length_append] at w1
          exact w1
        exact kk h' ks' q' w1' (w2.mono (fun _ _ q => q) (by rw [List.length_cons]; omega) (by rw [List.length_cons]; omega))
      · refine px_if rfl rfl (fun hb => by cases hb) (fun hb => ?_)
        refine px_step (pc' := 71) (st' := [.ref q]) rfl rfl rfl ?_
        refine px_step (pc' := 72) (st' := [.int (Int32.ofNat P.length), .ref q]) rfl rfl rfl ?_
        refine px_st rfl rfl rfl rfl rfl (cx_plus hq (by omega) ?_)
        show Px (some scl) (some scl) 99 75 _ [.ref (h.length + 4)] (h ++ [(100, ivs (F ++ [Int32.ofNat P.length]))]) (ks + (F.length + 1)) Φ
        refine px_step (pc' := 76) (lv' := [(2, .ref (h.length + 4)), (5, .int (Int32.ofNat n)), (4, .int 1), (3, .int (Int32.ofNat P.length)), (0, .ref b), (1, .int (all (Int32.ofNat n)))]) (st' := []) rfl rfl rfl ?_
        refine px_step (pc' := 79) (lv' := [(3, .int (Int32.ofNat (P.length + 1))), (2, .ref (h.length + 4)), (5, .int (Int32.ofNat n)), (4, .int 1), (0, .ref b), (1, .int (all (Int32.ofNat n)))]) (st' := []) (h' := (h ++ [(100, ivs (F ++ [Int32.ofNat P.length]))])) (ks' := (ks + (F.length + 1))) rfl rfl (by rw [← i32_s]; rfl) ?_
        refine px_step (pc' := 6) (st' := []) rfl rfl rfl ?_
        rw [show P.length + 1 = (P ++ [v]).length by rw [List.length_append]; rfl]
        refine (ih (P ++ [v]) (F ++ [Int32.ofNat P.length]) (h ++ [(100, ivs (F ++ [Int32.ofNat P.length]))]) (ks + (F.length + 1)) (h.length + 4) (by rw [hP, List.append_assoc]; rfl) ((xapp_old (xget_lt hg).2).trans hg) ((xapp_old (xget_lt hc).2).trans hc) ((xapp_old (xget_lt hju).2).trans hju) (xapp_new h _ 0) (by rw [List.length_append, List.length_append]; show F.length + 1 ≤ P.length + 1; omega) (fun h' ks' q' w1 w2 => ?_)).2 _ _
        have w1' : xget h' q' = some (100, ivs (fRec ((v :: r).map (isB C)) P.length F)) := by
          show xget h' q' = some (100, ivs (fRec (r.map (isB C)) (P.length + 1) (bif isB C v then F ++ [Int32.ofNat P.length] else F)))
          rw [ht]
          rw [List.length_append] at w1
          exact w1
        have f1 : Fr Pt 1 8 h ks (h ++ [(100, ivs (F ++ [Int32.ofNat P.length]))]) (ks + (F.length + 1)) := Fr.app (Nat.le_refl _) (by omega)
        exact kk h' ks' q' w1' ((f1.trans w2).mono (fun _ _ q => q) (by rw [List.length_cons]; omega) (by rw [List.length_cons]; omega))
    refine ⟨fun s5 s4 => ?_, fun s5 s4 => ?_⟩
    · skip
      refine px_step (pc' := 7) (st' := [.int (Int32.ofNat P.length)]) rfl rfl rfl ?_
      refine px_step (pc' := 8) (st' := [.ref b, .int (Int32.ofNat P.length)]) rfl rfl rfl ?_
      refine px_gf rfl rfl hg rfl ?_
      refine px_al rfl hju (by decide) ?_
      rw [hJl]
      refine px_icmp rfl rfl (fun hb => ?_) (fun hb => ?_)
      · have hb := xT (xc_ge _ _) hb
        rw [i32_to (by omega), i32_to (by omega)] at hb
        omega
      refine px_step (pc' := 16) (st' := [.int 1]) rfl rfl rfl ?_
      refine px_step (pc' := 18) (lv' := (4, .int 1) :: [(3, .int (Int32.ofNat P.length)), (5, .int s5), (2, .ref q), (0, .ref b), (1, .int (all (Int32.ofNat n)))]) (st' := []) rfl rfl rfl ?_
      refine px_step (pc' := 19) (st' := [.int (Int32.ofNat 0)]) rfl rfl rfl ?_
      refine px_step (pc' := 21) (lv' := [(5, .int (Int32.ofNat 0)), (4, .int 1), (3, .int (Int32.ofNat P.length)), (2, .ref q), (0, .ref b), (1, .int (all (Int32.ofNat n)))]) (st' := []) rfl rfl rfl ?_
      exact hin
    · skip
      refine px_step (pc' := 7) (st' := [.int (Int32.ofNat P.length)]) rfl rfl rfl ?_
      refine px_step (pc' := 8) (st' := [.ref b, .int (Int32.ofNat P.length)]) rfl rfl rfl ?_
      refine px_gf rfl rfl hg rfl ?_
      refine px_al rfl hju (by decide) ?_
      rw [hJl]
      refine px_icmp rfl rfl (fun hb => ?_) (fun hb => ?_)
      · have hb := xT (xc_ge _ _) hb
        rw [i32_to (by omega), i32_to (by omega)] at hb
        omega
      refine px_step (pc' := 16) (st' := [.int 1]) rfl rfl rfl ?_
      refine px_step (pc' := 18) (lv' := (4, .int 1) :: [(3, .int (Int32.ofNat P.length)), (2, .ref q), (5, .int s5), (0, .ref b), (1, .int (all (Int32.ofNat n)))]) (st' := []) rfl rfl rfl ?_
      refine px_step (pc' := 19) (st' := [.int (Int32.ofNat 0)]) rfl rfl rfl ?_
      refine px_step (pc' := 21) (lv' := [(5, .int (Int32.ofNat 0)), (4, .int 1), (3, .int (Int32.ofNat P.length)), (2, .ref q), (0, .ref b), (1, .int (all (Int32.ofNat n)))]) (st' := []) rfl rfl rfl ?_
      exact hin
set_option maxHeartbeats 1000000 in
theorem lz_panI {en da : Int32} {b n D cl ju : Nat} {C J : List Int32} (hn : C.length = n) (hn8 : n < 8) (hJ7 : J.length ≤ 7) : ∀ (r P F : List Int32) (v : Int32) (h : xH) (ks q : Nat), J = P ++ v :: r → xget h b = some (10, tfX b D cl ju en da) → xget h cl = some (100, ivs C) → xget h ju = some (100, ivs J) → xget h q = some (100, ivs F) → F.length ≤ P.length → (∀ h' ks' q', xget h' q' = some (100, ivs (fRec ((v :: r).map (isB C)) P.length F)) → Fr Pt (v :: r).length (8 * (v :: r).length) h ks h' ks' → (∀ s5 s4, Px (some scl) (some scl) 99 82 [(3, .int (Int32.ofNat J.length)), (5, .int s5), (4, .int s4), (2, .ref q'), (0, .ref b), (1, .int (all (Int32.ofNat n)))] [] h' ks' Φ) ∧ (∀ s5 s4, Px (some scl) (some scl) 99 82 [(3, .int (Int32.ofNat J.length)), (2, .ref q'), (5, .int s5), (4, .int s4), (0, .ref b), (1, .int (all (Int32.ofNat n)))] [] h' ks' Φ)) → Px (some scl) (some scl) 99 6 [(3, .int (Int32.ofNat P.length)), (2, .ref q), (0, .ref b), (1, .int (all (Int32.ofNat n)))] [] h ks Φ := by
  have hJl : (ivs J).length = J.length := by simp
  intro r P F v h ks q hP hg hc hju hq hFl kk
  have e : P.length < J.length := by rw [hP, List.length_append, List.length_cons]; omega
  have hjv : J[P.length]? = some v := by rw [hP]; simp
  have hin : Px (some scl) (some scl) 99 21 [(5, .int (Int32.ofNat 0)), (4, .int 1), (3, .int (Int32.ofNat P.length)), (2, .ref q), (0, .ref b), (1, .int (all (Int32.ofNat n)))] [] h ks Φ := by
    refine lz_pin (w := 0) (P := []) hn hn8 hjv (by omega) hg hc hju C [] 1 rfl (Or.inr rfl) ?_
    rw [isR_B]
    refine px_step (pc' := 67) (st' := [.int (bif isB C v then 1 else 0)]) rfl rfl rfl ?_
    cases ht : isB C v
    · refine px_if rfl rfl (fun hb => ?_) (fun hb => by cases hb)
      refine px_step (pc' := 79) (lv' := [(3, .int (Int32.ofNat (P.length + 1))), (5, .int (Int32.ofNat n)), (4, .int 0), (2, .ref q), (0, .ref b), (1, .int (all (Int32.ofNat n)))]) (st' := []) (h' := h) (ks' := ks) rfl rfl (by rw [← i32_s]; rfl) ?_
      refine px_step (pc' := 6) (st' := []) rfl rfl rfl ?_
      rw [show P.length + 1 = (P ++ [v]).length by rw [List.length_append]; rfl]
      refine (lz_pan hn hn8 hJ7 r (P ++ [v]) F h ks q (by rw [hP, List.append_assoc]; rfl) hg hc hju hq (by rw [List.length_append]; omega) (fun h' ks' q' w1 w2 => ?_)).1 _ _
      have w1' : xget h' q' = some (100, ivs (fRec ((v :: r).map (isB C)) P.length F)) := by
        show xget h' q' = some (100, ivs (fRec (r.map (isB C)) (P.length + 1) (bif isB C v then F ++ [Int32.ofNat P.length] else F)))
        rw [ht]
        rw [List.length_append] at w1
        exact w1
      exact kk h' ks' q' w1' (w2.mono (fun _ _ q => q) (by rw [List.length_cons]; omega) (by rw [List.length_cons]; omega))
    · refine px_if rfl rfl (fun hb => by cases hb) (fun hb => ?_)
      refine px_step (pc' := 71) (st' := [.ref q]) rfl rfl rfl ?_
      refine px_step (pc' := 72) (st' := [.int (Int32.ofNat P.length), .ref q]) rfl rfl rfl ?_
      refine px_st rfl rfl rfl rfl rfl (cx_plus hq (by omega) ?_)
      show Px (some scl) (some scl) 99 75 _ [.ref (h.length + 4)] (h ++ [(100, ivs (F ++ [Int32.ofNat P.length]))]) (ks + (F.length + 1)) Φ
      refine px_step (pc' := 76) (lv' := [(2, .ref (h.length + 4)), (5, .int (Int32.ofNat n)), (4, .int 1), (3, .int (Int32.ofNat P.length)), (0, .ref b), (1, .int (all (Int32.ofNat n)))]) (st' := []) rfl rfl rfl ?_
      refine px_step (pc' := 79) (lv' := [(3, .int (Int32.ofNat (P.length + 1))), (2, .ref (h.length + 4)), (5, .int (Int32.ofNat n)), (4, .int 1), (0, .ref b), (1, .int (all (Int32.ofNat n)))]) (st' := []) (h' := (h ++ [(100, ivs (F ++ [Int32.ofNat P.length]))])) (ks' := (ks + (F.length + 1))) rfl rfl (by rw [← i32_s]; rfl) ?_
      refine px_step (pc' := 6) (st' := []) rfl rfl rfl ?_
      rw [show P.length + 1 = (P ++ [v]).length by rw [List.length_append]; rfl]
      refine (lz_pan hn hn8 hJ7 r (P ++ [v]) (F ++ [Int32.ofNat P.length]) (h ++ [(100, ivs (F ++ [Int32.ofNat P.length]))]) (ks + (F.length + 1)) (h.length + 4) (by rw [hP, List.append_assoc]; rfl) ((xapp_old (xget_lt hg).2).trans hg) ((xapp_old (xget_lt hc).2).trans hc) ((xapp_old (xget_lt hju).2).trans hju) (xapp_new h _ 0) (by rw [List.length_append, List.length_append]; show F.length + 1 ≤ P.length + 1; omega) (fun h' ks' q' w1 w2 => ?_)).2 _ _
      have w1' : xget h' q' = some (100, ivs (fRec ((v :: r).map (isB C)) P.length F)) := by
        show xget h' q' = some (100, ivs (fRec (r.map (isB C)) (P.length + 1) (bif isB C v then F ++ [Int32.ofNat P.length] else F)))
        rw [ht]
        rw [List.length_append] at w1
        exact w1
      have f1 : Fr Pt 1 8 h ks (h ++ [(100, ivs (F ++ [Int32.ofNat P.length]))]) (ks + (F.length + 1)) := Fr.app (Nat.le_refl _) (by omega)
      exact kk h' ks' q' w1' ((f1.trans w2).mono (fun _ _ q => q) (by rw [List.length_cons]; omega) (by rw [List.length_cons]; omega))
  refine px_step (pc' := 7) (st' := [.int (Int32.ofNat P.length)]) rfl rfl rfl ?_
  refine px_step (pc' := 8) (st' := [.ref b, .int (Int32.ofNat P.length)]) rfl rfl rfl ?_
  refine px_gf rfl rfl hg rfl ?_
  refine px_al rfl hju (by decide) ?_
  rw [hJl]
  refine px_icmp rfl rfl (fun hb => ?_) (fun hb => ?_)
  · have hb := xT (xc_ge _ _) hb
    rw [i32_to (by omega), i32_to (by omega)] at hb
    omega
  refine px_step (pc' := 16) (st' := [.int 1]) rfl rfl rfl ?_
  refine px_step (pc' := 18) (lv' := (4, .int 1) :: [(3, .int (Int32.ofNat P.length)), (2, .ref q), (0, .ref b), (1, .int (all (Int32.ofNat n)))]) (st' := []) rfl rfl rfl ?_
  refine px_step (pc' := 19) (st' := [.int (Int32.ofNat 0)]) rfl rfl rfl ?_
  refine px_step (pc' := 21) (lv' := [(5, .int (Int32.ofNat 0)), (4, .int 1), (3, .int (Int32.ofNat P.length)), (2, .ref q), (0, .ref b), (1, .int (all (Int32.ofNat n)))]) (st' := []) rfl rfl rfl ?_
  exact hin
theorem fRec_len : ∀ (l : List Bool) (j : Nat) (acc : List Int32), acc.length ≤ (fRec l j acc).length ∧ (fRec l j acc).length ≤ acc.length + l.length := by
  intro l
  induction l with
  | nil => exact fun _ acc => ⟨Nat.le_refl _, Nat.le_refl _⟩
  | cons t r ih =>
    intro j acc
    show acc.length ≤ (fRec r (j + 1) (bif t then acc ++ [Int32.ofNat j] else acc)).length ∧ (fRec r (j + 1) (bif t then acc ++ [Int32.ofNat j] else acc)).length ≤ acc.length + (r.length + 1)
    obtain ⟨h1, h2⟩ := ih (j + 1) (bif t then acc ++ [Int32.ofNat j] else acc)
    cases t
    · rw [show (bif false then acc ++ [Int32.ofNat j] else acc) = acc from rfl] at h1 h2 ⊢
      exact ⟨h1, by omega⟩
    · rw [show (bif true then acc ++ [Int32.ofNat j] else acc) = acc ++ [Int32.ofNat j] from rfl] at h1 h2 ⊢
      rw [List.length_append] at h1 h2
      simp only [List.length_cons, List.length_nil] at h1 h2
      exact ⟨by omega, by omega⟩
theorem cx_panF {en da : Int32} {b n D cl ju : Nat} {C J : List Int32} {r : List Bool} (hn : C.length = n) (hn8 : n < 8) (hJ7 : J.length ≤ 7) (hfl : J.map (isB C) = true :: true :: true :: r) (hg : xget h b = some (10, tfX b D cl ju en da)) (hc : xget h cl = some (100, ivs C)) (hju : xget h ju = some (100, ivs J)) (kk : ∀ h' ks', Fr Pt 8 56 h ks h' ks' → Φ (none, some (.int (pSet (fRec (J.map (isB C)) 0 []))), h', ks')) : Qx (some scl) 99 [.ref b, .int (all (Int32.ofNat n))] h ks Φ := by
  refine Qx.of (Or.inl rfl) (Nat.le_of_ble_eq_true rfl) ?_
  refine px_step (pc' := 1) (lv' := [(0, .ref b), (1, .int (all (Int32.ofNat n)))]) (st' := [.int (Int32.ofNat 0)]) rfl rfl rfl ?_
  refine px_nai rfl (by decide) ?_
  refine px_step (pc' := 4) (lv' := [(2, .ref (h.length + 4)), (0, .ref b), (1, .int (all (Int32.ofNat n)))]) (st' := []) rfl rfl rfl ?_
  refine px_step (pc' := 5) (st' := [.int (Int32.ofNat 0)]) rfl rfl rfl ?_
  refine px_step (pc' := 6) (lv' := [(3, .int (Int32.ofNat 0)), (2, .ref (h.length + 4)), (0, .ref b), (1, .int (all (Int32.ofNat n)))]) (st' := []) rfl rfl rfl ?_
  have f1 : Fr Pt 1 0 h ks (h ++ [(100, List.replicate 0 (Value.int 0))]) (ks + 0) := Fr.app (Nat.le_refl _) (Nat.le_refl _)
  match J, hfl, hJ7, hju, kk with
  | [], hfl, _, _, _ => cases hfl
  | v :: w, hfl, hJ7, hju, kk =>
    refine lz_panI hn hn8 hJ7 w [] [] v _ _ _ rfl ((xapp_old (xget_lt hg).2).trans hg) ((xapp_old (xget_lt hc).2).trans hc) ((xapp_old (xget_lt hju).2).trans hju) (xapp_new h _ 0) (Nat.le_refl _) (fun h' ks' q' w1 w2 => ?_)
    have hfr := (f1.trans w2).mono (P' := Pt) (A' := 8) (B' := 56) (fun _ _ q => q) (by simp only [List.length_cons] at hJ7 ⊢; omega) (by simp only [List.length_cons] at hJ7 ⊢; omega)
    have w3 : (fRec ((v :: w).map (isB C)) ([] : List Int32).length []) = fRec ((v :: w).map (isB C)) 0 [] := rfl
    rw [w3] at w1
    have hL := fRec_len ((v :: w).map (isB C)) 0 []
    have hL1 : 1 ≤ (fRec ((v :: w).map (isB C)) 0 []).length := by
      rw [hfl]
      exact (fRec_len (true :: true :: r) 1 [Int32.ofNat 0]).1
    have hL2 : (fRec ((v :: w).map (isB C)) 0 []).length < 1000 := by
      have := hL.2
      rw [List.length_map] at this
      simp only [List.length_nil] at this
      omega
    generalize fRec ((v :: w).map (isB C)) 0 [] = F at *
    refine ⟨fun s5 s4 => ?_, fun s5 s4 => ?_⟩
    · refine px_step (pc' := 83) (st' := [.int 0]) rfl rfl rfl ?_
      refine px_step (pc' := 84) (lv' := (3, .int 0) :: [(5, .int s5), (4, .int s4), (2, .ref q'), (0, .ref b), (1, .int (all (Int32.ofNat n)))]) (st' := []) rfl rfl rfl ?_
      refine px_step (pc' := 85) (st' := [.int (Int32.ofNat 0)]) rfl rfl rfl ?_
      refine px_step (pc' := 87) (lv' := (4, .int (Int32.ofNat 0)) :: (3, .int 0) :: [(5, .int s5), (2, .ref q'), (0, .ref b), (1, .int (all (Int32.ofNat n)))]) (st' := []) rfl rfl rfl ?_
      exact lz_setA hL1 hL2 w1 (F.take (kOf F.length)) [] 0 rfl (kk h' ks' hfr)
    · refine px_step (pc' := 83) (st' := [.int 0]) rfl rfl rfl ?_
      refine px_step (pc' := 84) (lv' := (3, .int 0) :: [(2, .ref q'), (5, .int s5), (4, .int s4), (0, .ref b), (1, .int (all (Int32.ofNat n)))]) (st' := []) rfl rfl rfl ?_
      refine px_step (pc' := 85) (st' := [.int (Int32.ofNat 0)]) rfl rfl rfl ?_
      refine px_step (pc' := 87) (lv' := (4, .int (Int32.ofNat 0)) :: (3, .int 0) :: [(2, .ref q'), (5, .int s5), (0, .ref b), (1, .int (all (Int32.ofNat n)))]) (st' := []) rfl rfl rfl ?_
      exact lz_setB hL1 hL2 w1 (F.take (kOf F.length)) [] 0 rfl (kk h' ks' hfr)
end YAM
