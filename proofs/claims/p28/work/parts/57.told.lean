/-! what a told hall is made of -/
section YAJ
variable {sd : Option (List Int32)} {scl : List Int32} {μ pc : Nat} {lv : xL} {st : List Value} {h : xH} {ks : Nat} {Φ : xO → Prop}
theorem xset_two (h : xH) (a : Nat) (e e' : xE) : xset (xset h a e) a e' = xset h a e' := by
  unfold xset
  rw [List.set_set]
theorem xset_same {h : xH} {a : Nat} {e : xE} (hg : xget h a = some e) : xset h a e = h := by
  obtain ⟨h1, h2⟩ := xget_lt hg
  rw [xget_hi h1] at hg
  unfold xset
  obtain ⟨h3, h4⟩ := List.getElem?_eq_some_iff.mp hg
  rw [← h4, List.set_getElem_self]
/-- a frame: what P says lies still; so many cells and slots more -/
def Fr (P : Nat → Prop) (A B : Nat) (h : xH) (ks : Nat) (h' : xH) (ks' : Nat) : Prop := h.length ≤ h'.length ∧ h'.length ≤ h.length + A ∧ ks' ≤ ks + B ∧ ∀ l, l < h.length + 4 → P l → xget h' l = xget h l
theorem Fr.refl {P : Nat → Prop} {A B : Nat} {h : xH} {ks : Nat} : Fr P A B h ks h ks := ⟨Nat.le_refl _, by omega, by omega, fun _ _ _ => rfl⟩
theorem Fr.le {P : Nat → Prop} {A B : Nat} {h h' : xH} {ks k' : Nat} (x : Fr P A B h ks h' k') : h.length ≤ h'.length := x.1
theorem Fr.up {P : Nat → Prop} {A B : Nat} {h h' : xH} {ks k' : Nat} (x : Fr P A B h ks h' k') : h'.length ≤ h.length + A := x.2.1
theorem Fr.sl {P : Nat → Prop} {A B : Nat} {h h' : xH} {ks k' : Nat} (x : Fr P A B h ks h' k') : k' ≤ ks + B := x.2.2.1
theorem Fr.kp {P : Nat → Prop} {A B : Nat} {h h' : xH} {ks k' : Nat} (x : Fr P A B h ks h' k') {l : Nat} (hl : l < h.length + 4) (hP : P l) : xget h' l = xget h l := x.2.2.2 l hl hP
theorem Fr.trans {P : Nat → Prop} {A B A' B' : Nat} {h h1 h2 : xH} {ks k1 k2 : Nat} (x : Fr P A B h ks h1 k1) (y : Fr P A' B' h1 k1 h2 k2) : Fr P (A + A') (B + B') h ks h2 k2 :=
  ⟨Nat.le_trans x.le y.le, by have := x.up; have := y.up; omega, by have := x.sl; have := y.sl; omega, fun l h3 h4 => (y.kp (by have := x.le; omega) h4).trans (x.kp h3 h4)⟩
theorem Fr.mono {P P' : Nat → Prop} {A B A' B' : Nat} {h h1 : xH} {ks k1 : Nat} (x : Fr P A B h ks h1 k1) (hP : ∀ l, l < h.length + 4 → P' l → P l) (hA : A ≤ A') (hB : B ≤ B') : Fr P' A' B' h ks h1 k1 :=
  ⟨x.le, by have := x.up; omega, by have := x.sl; omega, fun l h3 h4 => x.kp h3 (hP l h3 h4)⟩
theorem Fr.set {P : Nat → Prop} {A B : Nat} {h : xH} {ks a : Nat} {e : xE} (ha : 4 ≤ a) (hP : ¬ P a) : Fr P A B h ks (xset h a e) ks :=
  ⟨by rw [xset_len]; exact Nat.le_refl _, by rw [xset_len]; omega, by omega, fun l _ h4 => xset_ne ha (fun q => hP (q ▸ h4))⟩
theorem Fr.app {P : Nat → Prop} {A B : Nat} {h g : xH} {ks n : Nat} (hA : g.length ≤ A) (hB : n ≤ B) : Fr P A B h ks (h ++ g) (ks + n) :=
  ⟨by rw [List.length_append]; omega, by rw [List.length_append]; omega, by omega, fun l h3 _ => xapp_old h3⟩
theorem Fr.ob {P : Nat → Prop} {A B : Nat} {h : xH} {ks b : Nat} {s : yS} (hb : 4 ≤ b) (hP : ∀ l, b ≤ l → l < b + 74 → ¬ P l) : Fr P A B h ks (yput h b s) ks := by
  refine ⟨by rw [yput_len]; exact Nat.le_refl _, by rw [yput_len]; omega, by omega, fun l _ h4 => ?_⟩
  by_cases h5 : 4 ≤ l
  · rw [xget_hi h5, xget_hi h5]
    by_cases h6 : l - 4 < h.length
    · rw [yput_at b s h6, if_neg (fun q => hP l (by omega) (by omega) h4), List.getD_eq_getElem?_getD, List.getElem?_eq_getElem h6]
      rfl
    · rw [List.getElem?_eq_none (by rw [yput_len]; omega), List.getElem?_eq_none (by omega)]
  · rw [xget_lo h5, xget_lo h5]
theorem lz_noh {a he : Nat} {F : List Value} (hF : F[21]? = some (.ref he)) (hn : he ≠ a) : ∀ (f i : Nat) (vs : List Value) (h : xH), i + f = 10 → vs.length = 10 → xget h a = some (10, F) → xget h he = some (100, vs) → (∀ vs', vs'.length = 10 → Φ (none, none, xset h he (100, vs'), ks)) → Px sd sd 78 2 [(1, .int (Int32.ofNat i)), (0, .ref a)] [] h ks Φ := by
  intro f
  induction f with
  | zero =>
    intro i vs h hi hl hg hh kk
    refine px_step (pc' := 3) (st' := [.int (Int32.ofNat i)]) rfl rfl rfl ?_
    refine px_step (pc' := 5) (st' := [.int (Int32.ofNat 10), .int (Int32.ofNat i)]) rfl rfl rfl ?_
    refine px_icmp rfl rfl (fun hb => ?_) (fun hb => ?_)
    · refine px_ret (r := none) rfl rfl rfl ?_
      have := kk vs hl
      rw [xset_same hh] at this
      exact this
    · have hb := xN (xc_ge _ _) hb
      rw [i32_to (by omega), i32_to (by omega)] at hb
      omega
  | succ f ih =>
    intro i vs h hi hl hg hh kk
    refine px_step (pc' := 3) (st' := [.int (Int32.ofNat i)]) rfl rfl rfl ?_
    refine px_step (pc' := 5) (st' := [.int (Int32.ofNat 10), .int (Int32.ofNat i)]) rfl rfl rfl ?_
    refine px_icmp rfl rfl (fun hb => ?_) (fun hb => ?_)
    · have hb := xT (xc_ge _ _) hb
      rw [i32_to (by omega), i32_to (by omega)] at hb
      omega
    · refine px_step (pc' := 9) (st' := [.ref a]) rfl rfl rfl ?_
      refine px_gf rfl rfl hg hF ?_
      refine px_step (pc' := 13) (st' := [.int (Int32.ofNat i), .ref he]) rfl rfl rfl ?_
      refine px_step (pc' := 14) (st' := [.int (-1), .int (Int32.ofNat i), .ref he]) rfl rfl rfl ?_
      refine px_ias rfl hh (by omega) (by omega) ?_
      refine px_step (pc' := 18) (lv' := [(1, .int (Int32.ofNat (i + 1))), (0, .ref a)]) (st' := []) (h' := xset h he (100, vs.set i (.int (-1)))) (ks' := ks) rfl rfl (by rw [← i32_s]; rfl) ?_
      refine px_step (pc' := 2) (st' := []) rfl rfl rfl ?_
      refine ih (i + 1) (vs.set i (.int (-1))) _ (by omega) (by rw [List.length_set]; exact hl) ?_ (xset_at hh) ?_
      · rw [xset_ne (xget_lt hh).1 (fun q => hn q.symm)]
        exact hg
      · intro vs' h1
        rw [xset_two]
        exact kk vs' h1
theorem cx_noh {a he : Nat} {F vs : List Value} (hg : xget h a = some (10, F)) (hF : F[21]? = some (.ref he)) (hn : he ≠ a) (hh : xget h he = some (100, vs)) (hl : vs.length = 10) (kk : ∀ vs', vs'.length = 10 → Φ (none, none, xset h he (100, vs'), ks)) : Qx sd 78 [.ref a] h ks Φ := by
  refine Qx.of (Or.inl rfl) (Nat.le_of_ble_eq_true rfl) ?_
  refine px_step (pc' := 1) (lv' := [(0, .ref a)]) (st' := [.int (Int32.ofNat 0)]) rfl rfl rfl ?_
  refine px_step (pc' := 2) (lv' := [(1, .int (Int32.ofNat 0)), (0, .ref a)]) (st' := []) rfl rfl rfl ?_
  exact lz_noh hF hn 10 0 vs h rfl hl hg hh kk
theorem px_mulL {x dm sl n : Nat} {rest : List Value} {es H L L' : xH} (hi : (xmc μ)[pc]? = some (some (.multianewarray x dm))) (hn : L.length = n) (hf : xmul (xmo μ) x dm st (H.length + 4 + n) = some (rest, es, sl)) (he : L ++ es = L') (k : Px sd sd μ (pc + 4) lv (.ref (H.length + 4 + n) :: rest) (H ++ L') (ks + sl) Φ) : Px sd sd μ pc lv st (H ++ L) ks Φ := by
  subst hn
  subst he
  rw [← List.append_assoc, show H.length + 4 + L.length = (H ++ L).length + 4 by rw [List.length_append]; omega] at k
  exact px_mul hi (by rw [show (H ++ L).length + 4 = H.length + 4 + L.length by rw [List.length_append]; omega]; exact hf) k
theorem px_anwL {x n : Nat} {rest : List Value} {H L L' : xH} (hi : (xmc μ)[pc]? = some (some (.anewarray x))) (hn : L.length = n) (hm : xanw (xmo μ) x st = some rest) (he : L ++ [(103, [])] = L') (k : Px sd sd μ (pc + 3) lv (.ref (H.length + 4 + n) :: rest) (H ++ L') ks Φ) : Px sd sd μ pc lv st (H ++ L) ks Φ := by
  subst hn
  subst he
  rw [← List.append_assoc, show H.length + 4 + L.length = (H ++ L).length + 4 by rw [List.length_append]; omega] at k
  exact px_anw hi hm k
/-- the fields of a told hall whose labels begin at b -/
def tfs (b D cl ju : Nat) (op fi en ip pa da : Int32) (ou he cr fn sh pe : Nat) : List Value := [.ref (b + 1), .ref 0, .int (Int32.ofNat D), .ref cl, .ref ju, .ref (b + 77), .ref (b + 78), .ref (b + 79), .ref (b + 90), .int op, .int fi, .int 0, .int en, .int ip, .int pa, .int da, .int 0, .int 0, .int 0, .int 0, .ref ou, .ref he, .ref cr, .ref fn, .ref sh, .ref pe]

/-- a told hall as it is made, but for its heats -/
def Rtol (D b : Nat) : xH := (10, [.ref (b + 1), .ref 0, .int (Int32.ofNat D), .ref (b + 75), .ref (b + 76), .ref (b + 77), .ref (b + 78), .ref (b + 79), .ref (b + 90), .int 0, .int 0, .int 0, .int 0, .int 0, .int 0, .int 0, .int 0, .int 0, .int 0, .int 0, .ref (b + 91), .ref (b + 92), .ref (b + 93), .ref (b + 101), .ref (b + 102), .ref (b + 145)]) :: (Rska (b + 1) ++ ([arZ 0] ++ ([arZ 0] ++ ([arZ 10] ++ ([arZ 7] ++ (xmk2 0 10 10 (b + 79) ++ ([(103, [])] ++ ([arZ 10] ++ ([arZ 10] ++ (xmk2 0 7 5 (b + 93) ++ ([arZ 0] ++ (xmk3 7 5 0 (b + 102) ++ (xmk2 2 10 5 (b + 145))))))))))))))
def tf0 (D b : Nat) : List Value := tfs b D (b + 75) (b + 76) 0 0 0 0 0 0 (b + 91) (b + 92) (b + 93) (b + 101) (b + 102) (b + 145)
set_option maxRecDepth 8000 in
theorem Kx_tol {D : Nat} {H : xH} : ∃ vs, vs.length = 10 ∧ Cx sd 67 [.ref (H.length + 4), .ref 0, .int (Int32.ofNat D)] (H ++ [(10, xdef 10)]) ks (none, none, xset (H ++ Rtol D (H.length + 4)) (H.length + 4 + 92) (100, vs), ks + 2617) := by
  have e : Qx sd 67 [.ref (H.length + 4 + 0), .ref 0, .int (Int32.ofNat D)] (H ++ [(10, xdef 10)]) ks (fun o => ∃ vs, vs.length = 10 ∧ o = (none, none, xset (H ++ Rtol D (H.length + 4)) (H.length + 4 + 92) (100, vs), ks + 2617)) := by
    refine Qx.of (Or.inl rfl) (Nat.le_of_ble_eq_true rfl) ?_
    refine px_step (pc' := 1) (lv' := [(0, .ref (H.length + 4 + 0)), (1, .ref 0), (2, .int (Int32.ofNat D))]) (st' := [.ref (H.length + 4 + 0)]) rfl rfl rfl ?_
    refine px_obj rfl rfl ⟨by decide, by decide⟩ ?_
    refine px_step (pc' := 5) (st' := [.ref (H.length + 4 + 0)]) rfl rfl rfl ?_
    refine px_newA (n := 1) (L' := (10, [.null, .null, .int 0, .null, .null, .null, .null, .null, .null, .int 0, .int 0, .int 0, .int 0, .int 0, .int 0, .int 0, .int 0, .int 0, .int 0, .int 0, .null, .null, .null, .null, .null, .null]) :: [(9, [.null, .null, .null, .null, .null, .null, .null, .int 0, .int 0])]) rfl rfl rfl rfl (by decide) rfl rfl ?_
    refine px_step (pc' := 9) (st' := [.ref (H.length + 4 + 1), .ref (H.length + 4 + 1), .ref (H.length + 4 + 0)]) rfl rfl rfl ?_
    refine px_ctor (n := 1) (L0 := [(10, [.null, .null, .int 0, .null, .null, .null, .null, .null, .null, .int 0, .int 0, .int 0, .int 0, .int 0, .int 0, .int 0, .int 0, .int 0, .int 0, .int 0, .null, .null, .null, .null, .null, .null])]) (L' := (10, [.null, .null, .int 0, .null, .null, .null, .null, .null, .null, .int 0, .int 0, .int 0, .int 0, .int 0, .int 0, .int 0, .int 0, .int 0, .int 0, .int 0, .null, .null, .null, .null, .null, .null]) :: (Rska (H.length + 4 + 1))) (Kx_ska) rfl (fun r h => by cases h) rfl ⟨Or.inl rfl, rfl, rfl, rfl⟩ rfl rfl rfl ?_
    refine px_put (k := 0) (L' := (10, [.ref (H.length + 4 + 1), .null, .int 0, .null, .null, .null, .null, .null, .null, .int 0, .int 0, .int 0, .int 0, .int 0, .int 0, .int 0, .int 0, .int 0, .int 0, .int 0, .null, .null, .null, .null, .null, .null]) :: (Rska (H.length + 4 + 1))) rfl rfl rfl rfl (Nat.le_of_ble_eq_true rfl) rfl rfl (Or.inr ⟨rfl, rfl, rfl⟩) rfl ?_
    refine px_step (pc' := 16) (st' := [.ref (H.length + 4 + 0)]) rfl rfl rfl ?_
    refine px_step (pc' := 17) (st' := [.int (Int32.ofNat 0), .ref (H.length + 4 + 0)]) rfl rfl rfl ?_
    refine px_newI (n := 75) (L' := (10, [.ref (H.length + 4 + 1), .null, .int 0, .null, .null, .null, .null, .null, .null, .int 0, .int 0, .int 0, .int 0, .int 0, .int 0, .int 0, .int 0, .int 0, .int 0, .int 0, .null, .null, .null, .null, .null, .null]) :: (Rska (H.length + 4 + 1) ++ ([arZ 0]))) rfl rfl (by decide) (by simp only [List.cons_append, List.nil_append, List.append_assoc, arZ]) ?_
    refine px_put (k := 0) (L' := (10, [.ref (H.length + 4 + 1), .null, .int 0, .ref (H.length + 4 + 75), .null, .null, .null, .null, .null, .int 0, .int 0, .int 0, .int 0, .int 0, .int 0, .int 0, .int 0, .int 0, .int 0, .int 0, .null, .null, .null, .null, .null, .null]) :: (Rska (H.length + 4 + 1) ++ ([arZ 0]))) rfl rfl rfl rfl (Nat.le_of_ble_eq_true rfl) rfl rfl (Or.inl rfl) rfl ?_
    refine px_step (pc' := 23) (st' := [.ref (H.length + 4 + 0)]) rfl rfl rfl ?_
    refine px_step (pc' := 24) (st' := [.int (Int32.ofNat 0), .ref (H.length + 4 + 0)]) rfl rfl rfl ?_
    refine px_newI (n := 76) (L' := (10, [.ref (H.length + 4 + 1), .null, .int 0, .ref (H.length + 4 + 75), .null, .null, .null, .null, .null, .int 0, .int 0, .int 0, .int 0, .int 0, .int 0, .int 0, .int 0, .int 0, .int 0, .int 0, .null, .null, .null, .null, .null, .null]) :: (Rska (H.length + 4 + 1) ++ ([arZ 0] ++ ([arZ 0])))) rfl rfl (by decide) (by simp only [List.cons_append, List.nil_append, List.append_assoc, arZ]) ?_
    refine px_put (k := 0) (L' := (10, [.ref (H.length + 4 + 1), .null, .int 0, .ref (H.length + 4 + 75), .ref (H.length + 4 + 76), .null, .null, .null, .null, .int 0, .int 0, .int 0, .int 0, .int 0, .int 0, .int 0, .int 0, .int 0, .int 0, .int 0, .null, .null, .null, .null, .null, .null]) :: (Rska (H.length + 4 + 1) ++ ([arZ 0] ++ ([arZ 0])))) rfl rfl rfl rfl (Nat.le_of_ble_eq_true rfl) rfl rfl (Or.inl rfl) rfl ?_
    refine px_step (pc' := 30) (st' := [.ref (H.length + 4 + 0)]) rfl rfl rfl ?_
    refine px_step (pc' := 32) (st' := [.int (Int32.ofNat 10), .ref (H.length + 4 + 0)]) rfl rfl rfl ?_
    refine px_newI (n := 77) (L' := (10, [.ref (H.length + 4 + 1), .null, .int 0, .ref (H.length + 4 + 75), .ref (H.length + 4 + 76), .null, .null, .null, .null, .int 0, .int 0, .int 0, .int 0, .int 0, .int 0, .int 0, .int 0, .int 0, .int 0, .int 0, .null, .null, .null, .null, .null, .null]) :: (Rska (H.length + 4 + 1) ++ ([arZ 0] ++ ([arZ 0] ++ ([arZ 10]))))) rfl rfl (by decide) (by simp only [List.cons_append, List.nil_append, List.append_assoc, arZ]) ?_
    refine px_put (k := 0) (L' := (10, [.ref (H.length + 4 + 1), .null, .int 0, .ref (H.length + 4 + 75), .ref (H.length + 4 + 76), .ref (H.length + 4 + 77), .null, .null, .null, .int 0, .int 0, .int 0, .int 0, .int 0, .int 0, .int 0, .int 0, .int 0, .int 0, .int 0, .null, .null, .null, .null, .null, .null]) :: (Rska (H.length + 4 + 1) ++ ([arZ 0] ++ ([arZ 0] ++ ([arZ 10]))))) rfl rfl rfl rfl (Nat.le_of_ble_eq_true rfl) rfl rfl (Or.inr ⟨rfl, rfl, rfl⟩) rfl ?_
    refine px_step (pc' := 38) (st' := [.ref (H.length + 4 + 0)]) rfl rfl rfl ?_
    refine px_step (pc' := 40) (st' := [.int (Int32.ofNat 7), .ref (H.length + 4 + 0)]) rfl rfl rfl ?_
    refine px_newI (n := 78) (L' := (10, [.ref (H.length + 4 + 1), .null, .int 0, .ref (H.length + 4 + 75), .ref (H.length + 4 + 76), .ref (H.length + 4 + 77), .null, .null, .null, .int 0, .int 0, .int 0, .int 0, .int 0, .int 0, .int 0, .int 0, .int 0, .int 0, .int 0, .null, .null, .null, .null, .null, .null]) :: (Rska (H.length + 4 + 1) ++ ([arZ 0] ++ ([arZ 0] ++ ([arZ 10] ++ ([arZ 7])))))) rfl rfl (by decide) (by simp only [List.cons_append, List.nil_append, List.append_assoc, arZ]) ?_
    refine px_put (k := 0) (L' := (10, [.ref (H.length + 4 + 1), .null, .int 0, .ref (H.length + 4 + 75), .ref (H.length + 4 + 76), .ref (H.length + 4 + 77), .ref (H.length + 4 + 78), .null, .null, .int 0, .int 0, .int 0, .int 0, .int 0, .int 0, .int 0, .int 0, .int 0, .int 0, .int 0, .null, .null, .null, .null, .null, .null]) :: (Rska (H.length + 4 + 1) ++ ([arZ 0] ++ ([arZ 0] ++ ([arZ 10] ++ ([arZ 7])))))) rfl rfl rfl rfl (Nat.le_of_ble_eq_true rfl) rfl rfl (Or.inr ⟨rfl, rfl, rfl⟩) rfl ?_
    refine px_step (pc' := 46) (st' := [.ref (H.length + 4 + 0)]) rfl rfl rfl ?_
    refine px_step (pc' := 48) (st' := [.int (Int32.ofNat 10), .ref (H.length + 4 + 0)]) rfl rfl rfl ?_
    refine px_step (pc' := 50) (st' := [.int (Int32.ofNat 10), .int (Int32.ofNat 10), .ref (H.length + 4 + 0)]) rfl rfl rfl ?_
    refine px_mulL (n := 79) (es := xmk2 0 10 10 (H.length + 4 + 79)) (L' := (10, [.ref (H.length + 4 + 1), .null, .int 0, .ref (H.length + 4 + 75), .ref (H.length + 4 + 76), .ref (H.length + 4 + 77), .ref (H.length + 4 + 78), .null, .null, .int 0, .int 0, .int 0, .int 0, .int 0, .int 0, .int 0, .int 0, .int 0, .int 0, .int 0, .null, .null, .null, .null, .null, .null]) :: (Rska (H.length + 4 + 1) ++ ([arZ 0] ++ ([arZ 0] ++ ([arZ 10] ++ ([arZ 7] ++ (xmk2 0 10 10 (H.length + 4 + 79)))))))) rfl rfl rfl (by simp only [List.cons_append, List.nil_append, List.append_assoc, arZ]) ?_
    refine px_put (k := 0) (L' := (10, [.ref (H.length + 4 + 1), .null, .int 0, .ref (H.length + 4 + 75), .ref (H.length + 4 + 76), .ref (H.length + 4 + 77), .ref (H.length + 4 + 78), .ref (H.length + 4 + 79), .null, .int 0, .int 0, .int 0, .int 0, .int 0, .int 0, .int 0, .int 0, .int 0, .int 0, .int 0, .null, .null, .null, .null, .null, .null]) :: (Rska (H.length + 4 + 1) ++ ([arZ 0] ++ ([arZ 0] ++ ([arZ 10] ++ ([arZ 7] ++ (xmk2 0 10 10 (H.length + 4 + 79)))))))) rfl rfl rfl rfl (Nat.le_of_ble_eq_true rfl) rfl rfl (Or.inr ⟨rfl, rfl, rfl⟩) rfl ?_
    refine px_step (pc' := 58) (st' := [.ref (H.length + 4 + 0)]) rfl rfl rfl ?_
    refine px_step (pc' := 59) (st' := [.int (Int32.ofNat 0), .ref (H.length + 4 + 0)]) rfl rfl rfl ?_
    refine px_anwL (n := 90) (L' := (10, [.ref (H.length + 4 + 1), .null, .int 0, .ref (H.length + 4 + 75), .ref (H.length + 4 + 76), .ref (H.length + 4 + 77), .ref (H.length + 4 + 78), .ref (H.length + 4 + 79), .null, .int 0, .int 0, .int 0, .int 0, .int 0, .int 0, .int 0, .int 0, .int 0, .int 0, .int 0, .null, .null, .null, .null, .null, .null]) :: (Rska (H.length + 4 + 1) ++ ([arZ 0] ++ ([arZ 0] ++ ([arZ 10] ++ ([arZ 7] ++ (xmk2 0 10 10 (H.length + 4 + 79) ++ ([(103, [])])))))))) rfl rfl rfl (by simp only [List.cons_append, List.nil_append, List.append_assoc, arZ]) ?_
    refine px_put (k := 0) (L' := (10, [.ref (H.length + 4 + 1), .null, .int 0, .ref (H.length + 4 + 75), .ref (H.length + 4 + 76), .ref (H.length + 4 + 77), .ref (H.length + 4 + 78), .ref (H.length + 4 + 79), .ref (H.length + 4 + 90), .int 0, .int 0, .int 0, .int 0, .int 0, .int 0, .int 0, .int 0, .int 0, .int 0, .int 0, .null, .null, .null, .null, .null, .null]) :: (Rska (H.length + 4 + 1) ++ ([arZ 0] ++ ([arZ 0] ++ ([arZ 10] ++ ([arZ 7] ++ (xmk2 0 10 10 (H.length + 4 + 79) ++ ([(103, [])])))))))) rfl rfl rfl rfl (Nat.le_of_ble_eq_true rfl) rfl rfl (Or.inl rfl) rfl ?_
    refine px_step (pc' := 66) (st' := [.ref (H.length + 4 + 0)]) rfl rfl rfl ?_
    refine px_step (pc' := 68) (st' := [.int (Int32.ofNat 10), .ref (H.length + 4 + 0)]) rfl rfl rfl ?_
    refine px_newI (n := 91) (L' := (10, [.ref (H.length + 4 + 1), .null, .int 0, .ref (H.length + 4 + 75), .ref (H.length + 4 + 76), .ref (H.length + 4 + 77), .ref (H.length + 4 + 78), .ref (H.length + 4 + 79), .ref (H.length + 4 + 90), .int 0, .int 0, .int 0, .int 0, .int 0, .int 0, .int 0, .int 0, .int 0, .int 0, .int 0, .null, .null, .null, .null, .null, .null]) :: (Rska (H.length + 4 + 1) ++ ([arZ 0] ++ ([arZ 0] ++ ([arZ 10] ++ ([arZ 7] ++ (xmk2 0 10 10 (H.length + 4 + 79) ++ ([(103, [])] ++ ([arZ 10]))))))))) rfl rfl (by decide) (by simp only [List.cons_append, List.nil_append, List.append_assoc, arZ]) ?_
    refine px_put (k := 0) (L' := (10, [.ref (H.length + 4 + 1), .null, .int 0, .ref (H.length + 4 + 75), .ref (H.length + 4 + 76), .ref (H.length + 4 + 77), .ref (H.length + 4 + 78), .ref (H.length + 4 + 79), .ref (H.length + 4 + 90), .int 0, .int 0, .int 0, .int 0, .int 0, .int 0, .int 0, .int 0, .int 0, .int 0, .int 0, .ref (H.length + 4 + 91), .null, .null, .null, .null, .null]) :: (Rska (H.length + 4 + 1) ++ ([arZ 0] ++ ([arZ 0] ++ ([arZ 10] ++ ([arZ 7] ++ (xmk2 0 10 10 (H.length + 4 + 79) ++ ([(103, [])] ++ ([arZ 10]))))))))) rfl rfl rfl rfl (Nat.le_of_ble_eq_true rfl) rfl rfl (Or.inl rfl) rfl ?_
    refine px_step (pc' := 74) (st' := [.ref (H.length + 4 + 0)]) rfl rfl rfl ?_
    refine px_step (pc' := 76) (st' := [.int (Int32.ofNat 10), .ref (H.length + 4 + 0)]) rfl rfl rfl ?_
    refine px_newI (n := 92) (L' := (10, [.ref (H.length + 4 + 1), .null, .int 0, .ref (H.length + 4 + 75), .ref (H.length + 4 + 76), .ref (H.length + 4 + 77), .ref (H.length + 4 + 78), .ref (H.length + 4 + 79), .ref (H.length + 4 + 90), .int 0, .int 0, .int 0, .int 0, .int 0, .int 0, .int 0, .int 0, .int 0, .int 0, .int 0, .ref (H.length + 4 + 91), .null, .null, .null, .null, .null]) :: (Rska (H.length + 4 + 1) ++ ([arZ 0] ++ ([arZ 0] ++ ([arZ 10] ++ ([arZ 7] ++ (xmk2 0 10 10 (H.length + 4 + 79) ++ ([(103, [])] ++ ([arZ 10] ++ ([arZ 10])))))))))) rfl rfl (by decide) (by simp only [List.cons_append, List.nil_append, List.append_assoc, arZ]) ?_
    refine px_put (k := 0) (L' := (10, [.ref (H.length + 4 + 1), .null, .int 0, .ref (H.length + 4 + 75), .ref (H.length + 4 + 76), .ref (H.length + 4 + 77), .ref (H.length + 4 + 78), .ref (H.length + 4 + 79), .ref (H.length + 4 + 90), .int 0, .int 0, .int 0, .int 0, .int 0, .int 0, .int 0, .int 0, .int 0, .int 0, .int 0, .ref (H.length + 4 + 91), .ref (H.length + 4 + 92), .null, .null, .null, .null]) :: (Rska (H.length + 4 + 1) ++ ([arZ 0] ++ ([arZ 0] ++ ([arZ 10] ++ ([arZ 7] ++ (xmk2 0 10 10 (H.length + 4 + 79) ++ ([(103, [])] ++ ([arZ 10] ++ ([arZ 10])))))))))) rfl rfl rfl rfl (Nat.le_of_ble_eq_true rfl) rfl rfl (Or.inl rfl) rfl ?_
    refine px_step (pc' := 82) (st' := [.ref (H.length + 4 + 0)]) rfl rfl rfl ?_
    refine px_step (pc' := 84) (st' := [.int (Int32.ofNat 7), .ref (H.length + 4 + 0)]) rfl rfl rfl ?_
    refine px_step (pc' := 85) (st' := [.int (Int32.ofNat 5), .int (Int32.ofNat 7), .ref (H.length + 4 + 0)]) rfl rfl rfl ?_
    refine px_mulL (n := 93) (es := xmk2 0 7 5 (H.length + 4 + 93)) (L' := (10, [.ref (H.length + 4 + 1), .null, .int 0, .ref (H.length + 4 + 75), .ref (H.length + 4 + 76), .ref (H.length + 4 + 77), .ref (H.length + 4 + 78), .ref (H.length + 4 + 79), .ref (H.length + 4 + 90), .int 0, .int 0, .int 0, .int 0, .int 0, .int 0, .int 0, .int 0, .int 0, .int 0, .int 0, .ref (H.length + 4 + 91), .ref (H.length + 4 + 92), .null, .null, .null, .null]) :: (Rska (H.length + 4 + 1) ++ ([arZ 0] ++ ([arZ 0] ++ ([arZ 10] ++ ([arZ 7] ++ (xmk2 0 10 10 (H.length + 4 + 79) ++ ([(103, [])] ++ ([arZ 10] ++ ([arZ 10] ++ (xmk2 0 7 5 (H.length + 4 + 93)))))))))))) rfl rfl rfl (by simp only [List.cons_append, List.nil_append, List.append_assoc, arZ]) ?_
    refine px_put (k := 0) (L' := (10, [.ref (H.length + 4 + 1), .null, .int 0, .ref (H.length + 4 + 75), .ref (H.length + 4 + 76), .ref (H.length + 4 + 77), .ref (H.length + 4 + 78), .ref (H.length + 4 + 79), .ref (H.length + 4 + 90), .int 0, .int 0, .int 0, .int 0, .int 0, .int 0, .int 0, .int 0, .int 0, .int 0, .int 0, .ref (H.length + 4 + 91), .ref (H.length + 4 + 92), .ref (H.length + 4 + 93), .null, .null, .null]) :: (Rska (H.length + 4 + 1) ++ ([arZ 0] ++ ([arZ 0] ++ ([arZ 10] ++ ([arZ 7] ++ (xmk2 0 10 10 (H.length + 4 + 79) ++ ([(103, [])] ++ ([arZ 10] ++ ([arZ 10] ++ (xmk2 0 7 5 (H.length + 4 + 93)))))))))))) rfl rfl rfl rfl (Nat.le_of_ble_eq_true rfl) rfl rfl (Or.inl rfl) rfl ?_
    refine px_step (pc' := 93) (st' := [.ref (H.length + 4 + 0)]) rfl rfl rfl ?_
    refine px_step (pc' := 94) (st' := [.int (Int32.ofNat 0), .ref (H.length + 4 + 0)]) rfl rfl rfl ?_
    refine px_newI (n := 101) (L' := (10, [.ref (H.length + 4 + 1), .null, .int 0, .ref (H.length + 4 + 75), .ref (H.length + 4 + 76), .ref (H.length + 4 + 77), .ref (H.length + 4 + 78), .ref (H.length + 4 + 79), .ref (H.length + 4 + 90), .int 0, .int 0, .int 0, .int 0, .int 0, .int 0, .int 0, .int 0, .int 0, .int 0, .int 0, .ref (H.length + 4 + 91), .ref (H.length + 4 + 92), .ref (H.length + 4 + 93), .null, .null, .null]) :: (Rska (H.length + 4 + 1) ++ ([arZ 0] ++ ([arZ 0] ++ ([arZ 10] ++ ([arZ 7] ++ (xmk2 0 10 10 (H.length + 4 + 79) ++ ([(103, [])] ++ ([arZ 10] ++ ([arZ 10] ++ (xmk2 0 7 5 (H.length + 4 + 93) ++ ([arZ 0])))))))))))) rfl rfl (by decide) (by simp only [List.cons_append, List.nil_append, List.append_assoc, arZ]) ?_
    refine px_put (k := 0) (L' := (10, [.ref (H.length + 4 + 1), .null, .int 0, .ref (H.length + 4 + 75), .ref (H.length + 4 + 76), .ref (H.length + 4 + 77), .ref (H.length + 4 + 78), .ref (H.length + 4 + 79), .ref (H.length + 4 + 90), .int 0, .int 0, .int 0, .int 0, .int 0, .int 0, .int 0, .int 0, .int 0, .int 0, .int 0, .ref (H.length + 4 + 91), .ref (H.length + 4 + 92), .ref (H.length + 4 + 93), .ref (H.length + 4 + 101), .null, .null]) :: (Rska (H.length + 4 + 1) ++ ([arZ 0] ++ ([arZ 0] ++ ([arZ 10] ++ ([arZ 7] ++ (xmk2 0 10 10 (H.length + 4 + 79) ++ ([(103, [])] ++ ([arZ 10] ++ ([arZ 10] ++ (xmk2 0 7 5 (H.length + 4 + 93) ++ ([arZ 0])))))))))))) rfl rfl rfl rfl (Nat.le_of_ble_eq_true rfl) rfl rfl (Or.inl rfl) rfl ?_
    refine px_step (pc' := 100) (st' := [.ref (H.length + 4 + 0)]) rfl rfl rfl ?_
    refine px_step (pc' := 102) (st' := [.int (Int32.ofNat 7), .ref (H.length + 4 + 0)]) rfl rfl rfl ?_
    refine px_step (pc' := 103) (st' := [.int (Int32.ofNat 5), .int (Int32.ofNat 7), .ref (H.length + 4 + 0)]) rfl rfl rfl ?_
    refine px_step (pc' := 104) (st' := [.int (Int32.ofNat 0), .int (Int32.ofNat 5), .int (Int32.ofNat 7), .ref (H.length + 4 + 0)]) rfl rfl rfl ?_
    refine px_mulL (n := 102) (es := xmk3 7 5 0 (H.length + 4 + 102)) (L' := (10, [.ref (H.length + 4 + 1), .null, .int 0, .ref (H.length + 4 + 75), .ref (H.length + 4 + 76), .ref (H.length + 4 + 77), .ref (H.length + 4 + 78), .ref (H.length + 4 + 79), .ref (H.length + 4 + 90), .int 0, .int 0, .int 0, .int 0, .int 0, .int 0, .int 0, .int 0, .int 0, .int 0, .int 0, .ref (H.length + 4 + 91), .ref (H.length + 4 + 92), .ref (H.length + 4 + 93), .ref (H.length + 4 + 101), .null, .null]) :: (Rska (H.length + 4 + 1) ++ ([arZ 0] ++ ([arZ 0] ++ ([arZ 10] ++ ([arZ 7] ++ (xmk2 0 10 10 (H.length + 4 + 79) ++ ([(103, [])] ++ ([arZ 10] ++ ([arZ 10] ++ (xmk2 0 7 5 (H.length + 4 + 93) ++ ([arZ 0] ++ (xmk3 7 5 0 (H.length + 4 + 102)))))))))))))) rfl rfl rfl (by simp only [List.cons_append, List.nil_append, List.append_assoc, arZ]) ?_
    refine px_put (k := 0) (L' := (10, [.ref (H.length + 4 + 1), .null, .int 0, .ref (H.length + 4 + 75), .ref (H.length + 4 + 76), .ref (H.length + 4 + 77), .ref (H.length + 4 + 78), .ref (H.length + 4 + 79), .ref (H.length + 4 + 90), .int 0, .int 0, .int 0, .int 0, .int 0, .int 0, .int 0, .int 0, .int 0, .int 0, .int 0, .ref (H.length + 4 + 91), .ref (H.length + 4 + 92), .ref (H.length + 4 + 93), .ref (H.length + 4 + 101), .ref (H.length + 4 + 102), .null]) :: (Rska (H.length + 4 + 1) ++ ([arZ 0] ++ ([arZ 0] ++ ([arZ 10] ++ ([arZ 7] ++ (xmk2 0 10 10 (H.length + 4 + 79) ++ ([(103, [])] ++ ([arZ 10] ++ ([arZ 10] ++ (xmk2 0 7 5 (H.length + 4 + 93) ++ ([arZ 0] ++ (xmk3 7 5 0 (H.length + 4 + 102)))))))))))))) rfl rfl rfl rfl (Nat.le_of_ble_eq_true rfl) rfl rfl (Or.inl rfl) rfl ?_
    refine px_step (pc' := 112) (st' := [.ref (H.length + 4 + 0)]) rfl rfl rfl ?_
    refine px_step (pc' := 114) (st' := [.int (Int32.ofNat 10), .ref (H.length + 4 + 0)]) rfl rfl rfl ?_
    refine px_step (pc' := 115) (st' := [.int (Int32.ofNat 5), .int (Int32.ofNat 10), .ref (H.length + 4 + 0)]) rfl rfl rfl ?_
    refine px_mulL (n := 145) (es := xmk2 2 10 5 (H.length + 4 + 145)) (L' := (10, [.ref (H.length + 4 + 1), .null, .int 0, .ref (H.length + 4 + 75), .ref (H.length + 4 + 76), .ref (H.length + 4 + 77), .ref (H.length + 4 + 78), .ref (H.length + 4 + 79), .ref (H.length + 4 + 90), .int 0, .int 0, .int 0, .int 0, .int 0, .int 0, .int 0, .int 0, .int 0, .int 0, .int 0, .ref (H.length + 4 + 91), .ref (H.length + 4 + 92), .ref (H.length + 4 + 93), .ref (H.length + 4 + 101), .ref (H.length + 4 + 102), .null]) :: (Rska (H.length + 4 + 1) ++ ([arZ 0] ++ ([arZ 0] ++ ([arZ 10] ++ ([arZ 7] ++ (xmk2 0 10 10 (H.length + 4 + 79) ++ ([(103, [])] ++ ([arZ 10] ++ ([arZ 10] ++ (xmk2 0 7 5 (H.length + 4 + 93) ++ ([arZ 0] ++ (xmk3 7 5 0 (H.length + 4 + 102) ++ (xmk2 2 10 5 (H.length + 4 + 145))))))))))))))) rfl rfl rfl (by simp only [List.cons_append, List.nil_append, List.append_assoc, arZ]) ?_
    refine px_put (k := 0) (L' := (10, [.ref (H.length + 4 + 1), .null, .int 0, .ref (H.length + 4 + 75), .ref (H.length + 4 + 76), .ref (H.length + 4 + 77), .ref (H.length + 4 + 78), .ref (H.length + 4 + 79), .ref (H.length + 4 + 90), .int 0, .int 0, .int 0, .int 0, .int 0, .int 0, .int 0, .int 0, .int 0, .int 0, .int 0, .ref (H.length + 4 + 91), .ref (H.length + 4 + 92), .ref (H.length + 4 + 93), .ref (H.length + 4 + 101), .ref (H.length + 4 + 102), .ref (H.length + 4 + 145)]) :: (Rska (H.length + 4 + 1) ++ ([arZ 0] ++ ([arZ 0] ++ ([arZ 10] ++ ([arZ 7] ++ (xmk2 0 10 10 (H.length + 4 + 79) ++ ([(103, [])] ++ ([arZ 10] ++ ([arZ 10] ++ (xmk2 0 7 5 (H.length + 4 + 93) ++ ([arZ 0] ++ (xmk3 7 5 0 (H.length + 4 + 102) ++ (xmk2 2 10 5 (H.length + 4 + 145))))))))))))))) rfl rfl rfl rfl (Nat.le_of_ble_eq_true rfl) rfl rfl (Or.inl rfl) rfl ?_
    refine px_step (pc' := 123) (st' := [.ref (H.length + 4 + 0)]) rfl rfl rfl ?_
    refine px_step (pc' := 124) (st' := [.ref 0, .ref (H.length + 4 + 0)]) rfl rfl rfl ?_
    refine px_put (k := 0) (L' := (10, [.ref (H.length + 4 + 1), .ref 0, .int 0, .ref (H.length + 4 + 75), .ref (H.length + 4 + 76), .ref (H.length + 4 + 77), .ref (H.length + 4 + 78), .ref (H.length + 4 + 79), .ref (H.length + 4 + 90), .int 0, .int 0, .int 0, .int 0, .int 0, .int 0, .int 0, .int 0, .int 0, .int 0, .int 0, .ref (H.length + 4 + 91), .ref (H.length + 4 + 92), .ref (H.length + 4 + 93), .ref (H.length + 4 + 101), .ref (H.length + 4 + 102), .ref (H.length + 4 + 145)]) :: (Rska (H.length + 4 + 1) ++ ([arZ 0] ++ ([arZ 0] ++ ([arZ 10] ++ ([arZ 7] ++ (xmk2 0 10 10 (H.length + 4 + 79) ++ ([(103, [])] ++ ([arZ 10] ++ ([arZ 10] ++ (xmk2 0 7 5 (H.length + 4 + 93) ++ ([arZ 0] ++ (xmk3 7 5 0 (H.length + 4 + 102) ++ (xmk2 2 10 5 (H.length + 4 + 145))))))))))))))) rfl rfl rfl rfl (Nat.le_of_ble_eq_true rfl) rfl rfl (Or.inr ⟨rfl, rfl, rfl⟩) rfl ?_
    refine px_step (pc' := 128) (st' := [.ref (H.length + 4 + 0)]) rfl rfl rfl ?_
    refine px_step (pc' := 129) (st' := [.int (Int32.ofNat D), .ref (H.length + 4 + 0)]) rfl rfl rfl ?_
    refine px_put (k := 0) (L' := (10, [.ref (H.length + 4 + 1), .ref 0, .int (Int32.ofNat D), .ref (H.length + 4 + 75), .ref (H.length + 4 + 76), .ref (H.length + 4 + 77), .ref (H.length + 4 + 78), .ref (H.length + 4 + 79), .ref (H.length + 4 + 90), .int 0, .int 0, .int 0, .int 0, .int 0, .int 0, .int 0, .int 0, .int 0, .int 0, .int 0, .ref (H.length + 4 + 91), .ref (H.length + 4 + 92), .ref (H.length + 4 + 93), .ref (H.length + 4 + 101), .ref (H.length + 4 + 102), .ref (H.length + 4 + 145)]) :: (Rska (H.length + 4 + 1) ++ ([arZ 0] ++ ([arZ 0] ++ ([arZ 10] ++ ([arZ 7] ++ (xmk2 0 10 10 (H.length + 4 + 79) ++ ([(103, [])] ++ ([arZ 10] ++ ([arZ 10] ++ (xmk2 0 7 5 (H.length + 4 + 93) ++ ([arZ 0] ++ (xmk3 7 5 0 (H.length + 4 + 102) ++ (xmk2 2 10 5 (H.length + 4 + 145))))))))))))))) rfl rfl rfl rfl (Nat.le_of_ble_eq_true rfl) rfl rfl (Or.inl rfl) rfl ?_
    refine px_step (pc' := 133) (st' := [.ref (H.length + 4 + 0)]) rfl rfl rfl ?_
    have g0 : xget (H ++ Rtol D (H.length + 4)) (H.length + 4 + 0) = some (10, tf0 D (H.length + 4)) := by
      rw [ha_get]
      rfl
    have g1 : xget (H ++ Rtol D (H.length + 4)) (H.length + 4 + 92) = some (arZ 10) := by
      rw [ha_get]
      rfl
    refine px_vi (as := [.ref (H.length + 4 + 0)]) (rest := []) rfl rfl ?_ rfl rfl (cx_noh (a := H.length + 4 + 0) (he := H.length + 4 + 92) (vs := List.replicate 10 (.int 0)) g0 rfl (by omega) g1 rfl (fun vs hv => ?_))
    · show (match xget (H ++ Rtol D (H.length + 4)) (H.length + 4 + 0) with | some (ci, _) => decide (ci = 10) && Nat.blt ci xNX | none => false) = true
      rw [g0]
      rfl
    · exact px_ret (r := none) rfl rfl rfl ⟨vs, hv, rfl⟩
  obtain ⟨out, e1, vs, hv, rfl⟩ := e
  exact ⟨vs, hv, e1⟩
end YAJ
