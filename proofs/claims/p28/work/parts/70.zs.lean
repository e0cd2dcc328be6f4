/-! two halls in their final: what is told of both -/
section YAW
variable {sd : Option (List Int32)} {scl : List Int32} {μ pc : Nat} {lv : xL} {st : List Value} {h : xH} {ks : Nat} {Φ : xO → Prop}
abbrev mks (L : List Nat) : List Int32 := L.map Int32.ofNat
/-- the told sheets: rows of rows of marks -/
def Sh (h : xH) (sh : Nat) (M : Nat → Nat → List Nat) : Prop :=
  xget h sh = some (104, (List.range 7).map (fun i => Value.ref (sh + 1 + i * 6))) ∧
  ∀ j, j < 7 → ∃ r : Nat → Nat, xget h (sh + 1 + j * 6) = some (103, (List.range 5).map (fun d => Value.ref (r d))) ∧ ∀ d, d < 5 → sh ≤ r d ∧ xget h (r d) = some (100, ivs (mks (M j d)))
theorem Sh.kept {h' : xH} {sh : Nat} {M : Nat → Nat → List Nat} (hS : Sh h sh M) (hk : ∀ l, sh ≤ l → l < h.length + 4 → xget h' l = xget h l) : Sh h' sh M := by
  obtain ⟨h1, h2⟩ := hS
  refine ⟨(hk _ (Nat.le_refl _) (xget_lt h1).2).trans h1, fun j hj => ?_⟩
  obtain ⟨r, r1, r2⟩ := h2 j hj
  refine ⟨r, (hk _ (by omega) (xget_lt r1).2).trans r1, fun d hd => ⟨(r2 d hd).1, (hk _ (r2 d hd).1 (xget_lt (r2 d hd).2).2).trans (r2 d hd).2⟩⟩
theorem set5 (r : Nat → Nat) (q d : Nat) (hd : d < 5) : ((List.range 5).map (fun e => Value.ref (r e))).set d (.ref q) = (List.range 5).map (fun e => Value.ref (if e = d then q else r e)) := by
  rcases (show d = 0 ∨ d = 1 ∨ d = 2 ∨ d = 3 ∨ d = 4 by omega) with rfl | rfl | rfl | rfl | rfl <;> rfl
theorem Sh.up {sh j d q : Nat} {M : Nat → Nat → List Nat} {L : List Nat} {rs : List Value} (hS : Sh h sh M) (h4 : 4 ≤ sh) (hj : j < 7) (hd : d < 5) (hq : sh ≤ q) (hg : xget h q = some (100, ivs (mks L))) (hr : xget h (sh + 1 + j * 6) = some (103, rs)) : Sh (xset h (sh + 1 + j * 6) (103, rs.set d (.ref q))) sh (upM M j d L) := by
  obtain ⟨h1, h2⟩ := hS
  have hno : ∀ {l : Nat} {t : Nat} {vs : List Value}, xget h l = some (t, vs) → t ≠ 103 → xget (xset h (sh + 1 + j * 6) (103, rs.set d (.ref q))) l = xget h l := fun {l t vs} e ht => xset_ne (by omega) (fun z => by rw [z, hr] at e; cases e; exact ht rfl)
  refine ⟨(hno h1 (by decide)).trans h1, fun a ha => ?_⟩
  by_cases e : a = j
  · subst e
    obtain ⟨r, r1, r2⟩ := h2 a ha
    rw [r1] at hr
    cases hr
    refine ⟨fun x => if x = d then q else r x, by rw [xset_at r1, set5 r q d hd], fun x hx => ?_⟩
    by_cases e2 : x = d
    · subst e2
      dsimp only
      rw [if_pos rfl]
      refine ⟨hq, (hno hg (by decide)).trans ?_⟩
      unfold upM
      rw [if_pos ⟨rfl, rfl⟩]
      exact hg
    · dsimp only
      rw [if_neg e2]
      refine ⟨(r2 x hx).1, (hno (r2 x hx).2 (by decide)).trans ?_⟩
      unfold upM
      rw [if_neg (fun z => e2 z.2)]
      exact (r2 x hx).2
  · obtain ⟨r, r1, r2⟩ := h2 a ha
    refine ⟨r, (xset_ne (by omega) (by omega)).trans r1, fun x hx => ⟨(r2 x hx).1, (hno (r2 x hx).2 (by decide)).trans ?_⟩⟩
    unfold upM
    rw [if_neg (fun z => e z.1)]
    exact (r2 x hx).2
/-- both halls: t at b, o at c; M is told by t, A lies in t's object, N in o's -/
def Zs (n D J : Nat) (P : Int32) (cl jc : Nat → Int32) (b c fn sh K : Nat) (M A N : Nat → Nat → List Nat) (h : xH) : Prop :=
  4 ≤ b ∧ b + 75 ≤ c ∧ c + 75 ≤ fn ∧ fn < sh ∧ (∃ cx ju ou cr pe, xget h b = some (10, tfB b K cx ju (all (Int32.ofNat n)) P (Int32.ofNat D) ou cr fn sh pe)) ∧ (∃ F : List Value, xget h c = some (10, F) ∧ F[0]? = some (.ref (c + 1))) ∧ (∃ s, Ob h (b + 1) s ∧ finF s n D J P cl jc (mM A)) ∧ (∃ s, Ob h (c + 1) s ∧ finF s n D J P cl jc (mM N)) ∧ xget h fn = some (100, ivs (nms n)) ∧ Sh h sh M
variable {n D J : Nat} {P : Int32} {cl jc : Nat → Int32} {b c fn sh K : Nat} {M A N : Nat → Nat → List Nat}
theorem Zs.draw {F : List Value} (hZ : Zs n D J P cl jc b c fn sh K M A N h) (hg : xget h b = some (10, F)) : Zs n D J P cl jc b c fn sh (K + 1) M A N (xset h b (10, F.set 2 (.int (Int32.ofNat (K + 1))))) := by
  obtain ⟨z1, z2, z3, z4, ⟨cx, ju, ou, cr, pe, z5⟩, ⟨Fo, z6, z7⟩, ⟨s, z8, z9⟩, ⟨s', y1, y2⟩, y3, y4⟩ := hZ
  rw [z5] at hg
  cases hg
  refine ⟨z1, z2, z3, z4, ⟨cx, ju, ou, cr, pe, xset_at z5⟩, ⟨Fo, (xset_ne z1 (by omega)).trans z6, z7⟩, ⟨s, z8.kept (by rw [xset_len]; exact Nat.le_refl _) (fun l h1 h2 => xset_ne z1 (by omega)), z9⟩, ⟨s', y1.kept (by rw [xset_len]; exact Nat.le_refl _) (fun l h1 h2 => xset_ne z1 (by omega)), y2⟩, (xset_ne z1 (by omega)).trans y3, y4.kept (fun l h1 _ => xset_ne z1 (by omega))⟩
theorem Zs.t {s' : yS} {A' : Nat → Nat → List Nat} (hZ : Zs n D J P cl jc b c fn sh K M A N h) (hF : finF s' n D J P cl jc (mM A')) : Zs n D J P cl jc b c fn sh K M A' N (yput h (b + 1) s') := by
  obtain ⟨z1, z2, z3, z4, ⟨cx, ju, ou, cr, pe, z5⟩, ⟨Fo, z6, z7⟩, ⟨s, z8, z9⟩, ⟨s2, y1, y2⟩, y3, y4⟩ := hZ
  refine ⟨z1, z2, z3, z4, ⟨cx, ju, ou, cr, pe, (yput_no (by omega) (by omega)).trans z5⟩, ⟨Fo, (yput_no (by omega) (by omega)).trans z6, z7⟩, ⟨s', z8.put s', hF⟩, ⟨s2, y1.kept (by rw [yput_len]; exact Nat.le_refl _) (fun l h1 h2 => yput_no (by omega) (by omega)), y2⟩, (yput_no (by omega) (by omega)).trans y3, y4.kept (fun l h1 _ => yput_no (by omega) (by omega))⟩
theorem Zs.o {s' : yS} {N' : Nat → Nat → List Nat} (hZ : Zs n D J P cl jc b c fn sh K M A N h) (hF : finF s' n D J P cl jc (mM N')) : Zs n D J P cl jc b c fn sh K M A N' (yput h (c + 1) s') := by
  obtain ⟨z1, z2, z3, z4, ⟨cx, ju, ou, cr, pe, z5⟩, ⟨Fo, z6, z7⟩, ⟨s, z8, z9⟩, ⟨s2, y1, y2⟩, y3, y4⟩ := hZ
  refine ⟨z1, z2, z3, z4, ⟨cx, ju, ou, cr, pe, (yput_no (by omega) (by omega)).trans z5⟩, ⟨Fo, (yput_no (by omega) (by omega)).trans z6, z7⟩, ⟨s, z8.kept (by rw [yput_len]; exact Nat.le_refl _) (fun l h1 h2 => yput_no (by omega) (by omega)), z9⟩, ⟨s', y1.put s', hF⟩, (yput_no (by omega) (by omega)).trans y3, y4.kept (fun l h1 _ => yput_no (by omega) (by omega))⟩
theorem Ob.app {s : yS} {g : xH} (hO : Ob h b s) : Ob (h ++ g) b s := hO.kept (by rw [List.length_append]; omega) (fun l h1 h2 => xapp_old (by have := hO.1.2; omega))
theorem Zs.app {g : xH} (hZ : Zs n D J P cl jc b c fn sh K M A N h) : Zs n D J P cl jc b c fn sh K M A N (h ++ g) := by
  obtain ⟨z1, z2, z3, z4, ⟨cx, ju, ou, cr, pe, z5⟩, ⟨Fo, z6, z7⟩, ⟨s, z8, z9⟩, ⟨s2, y1, y2⟩, y3, y4⟩ := hZ
  exact ⟨z1, z2, z3, z4, ⟨cx, ju, ou, cr, pe, (xapp_old (xget_lt z5).2).trans z5⟩, ⟨Fo, (xapp_old (xget_lt z6).2).trans z6, z7⟩, ⟨s, z8.app, z9⟩, ⟨s2, y1.app, y2⟩, (xapp_old (xget_lt y3).2).trans y3, y4.kept (fun l _ h2 => xapp_old h2)⟩
theorem Zs.up {j d q : Nat} {L : List Nat} {rs : List Value} (hZ : Zs n D J P cl jc b c fn sh K M A N h) (hj : j < 7) (hd : d < 5) (hq : sh ≤ q) (hg : xget h q = some (100, ivs (mks L))) (hr : xget h (sh + 1 + j * 6) = some (103, rs)) : Zs n D J P cl jc b c fn sh K (upM M j d L) A N (xset h (sh + 1 + j * 6) (103, rs.set d (.ref q))) := by
  obtain ⟨z1, z2, z3, z4, ⟨cx, ju, ou, cr, pe, z5⟩, ⟨Fo, z6, z7⟩, ⟨s, z8, z9⟩, ⟨s2, y1, y2⟩, y3, y4⟩ := hZ
  refine ⟨z1, z2, z3, z4, ⟨cx, ju, ou, cr, pe, (xset_ne (by omega) (by omega)).trans z5⟩, ⟨Fo, (xset_ne (by omega) (by omega)).trans z6, z7⟩, ⟨s, z8.kept (by rw [xset_len]; exact Nat.le_refl _) (fun l h1 h2 => xset_ne (by omega) (by omega)), z9⟩, ⟨s2, y1.kept (by rw [xset_len]; exact Nat.le_refl _) (fun l h1 h2 => xset_ne (by omega) (by omega)), y2⟩, (xset_ne (by omega) (by omega)).trans y3, y4.up (by omega) hj hd hq hg hr⟩
/-- where only what is new has changed -/
theorem Zs.old {q : Nat} {e : xE} (hZ : Zs n D J P cl jc b c fn sh K M A N h) (hq : h.length + 4 ≤ q) {g : xH} : Zs n D J P cl jc b c fn sh K M A N (xset (h ++ g) q e) := by
  have hZ9 := hZ.app (g := g)
  obtain ⟨z1, z2, z3, z4, ⟨cx, ju, ou, cr, pe, z5⟩, ⟨Fo, z6, z7⟩, ⟨s, z8, z9⟩, ⟨s2, y1, y2⟩, y3, y4⟩ := hZ
  have hk : ∀ {l : Nat}, l < h.length + 4 → xget (xset (h ++ g) q e) l = xget h l := fun {l} hl => (xset_ne (by omega) (by omega)).trans (xapp_old hl)
  refine ⟨z1, z2, z3, z4, ⟨cx, ju, ou, cr, pe, (hk (xget_lt z5).2).trans z5⟩, ⟨Fo, (hk (xget_lt z6).2).trans z6, z7⟩, ⟨s, z8.kept (by rw [xset_len, List.length_append]; omega) (fun l h1 h2 => hk (by have := z8.1.2; omega)), z9⟩, ⟨s2, y1.kept (by rw [xset_len, List.length_append]; omega) (fun l h1 h2 => hk (by have := y1.1.2; omega)), y2⟩, (hk (xget_lt y3).2).trans y3, y4.kept (fun l _ h2 => hk h2)⟩
theorem cz_draw {Nn : Nat} (hK : K < 10000) (hN : 0 < Nn) (hN2 : Nn < 1000) (hs : scl.length < 100000) (hZ : Zs n D J P cl jc b c fn sh K M A N h) (kk : ∀ h', Zs n D J P cl jc b c fn sh (K + 1) M A N h' → h'.length = h.length → Φ (none, some (.int (Int32.ofNat (drw scl K Nn))), h', ks)) : Qx (some scl) 79 [.ref b, .int (Int32.ofNat Nn)] h ks Φ := by
  have hZ9 := hZ
  obtain ⟨z1, z2, z3, z4, ⟨cx, ju, ou, cr, pe, z5⟩, _⟩ := hZ
  exact cx_draw hK hN hN2 hs z5 rfl rfl (kk _ (hZ9.draw z5) (xset_len _ _ _))
theorem Zs.rec {μ' : Nat} {as : List Value} (hZ : Zs n D J P cl jc b c fn sh K M A N h) (hm : xmo μ' = 10) : xrecv μ' (.ref b :: as) h = true := by
  obtain ⟨z1, z2, z3, z4, ⟨cx, ju, ou, cr, pe, z5⟩, _⟩ := hZ
  exact recvT z5 hm
/-- a field of t -/
theorem Zs.gt {j : Nat} {v : Value} (hZ : Zs n D J P cl jc b c fn sh K M A N h) (hv : ∀ cx ju ou cr pe, (tfB b K cx ju (all (Int32.ofNat n)) P (Int32.ofNat D) ou cr fn sh pe)[j]? = some v) : ∃ fs, xget h b = some (10, fs) ∧ fs[j]? = some v := by
  obtain ⟨z1, z2, z3, z4, ⟨cx, ju, ou, cr, pe, z5⟩, _⟩ := hZ
  exact ⟨_, z5, hv _ _ _ _ _⟩
theorem px_gt {x j : Nat} {r : Nat × Nat} {v : Value} {rest : List Value} (hi : (xmc μ)[pc]? = some (some (.getfield x))) (hf : xfnd (xfldT (xmo μ)) x = some (10, j, r)) (hZ : Zs n D J P cl jc b c fn sh K M A N h) (hv : ∀ cx ju ou cr pe, (tfB b K cx ju (all (Int32.ofNat n)) P (Int32.ofNat D) ou cr fn sh pe)[j]? = some v) (kk : Px sd sd μ (pc + 3) lv (v :: rest) h ks Φ) : Px sd sd μ pc lv (.ref b :: rest) h ks Φ := by
  obtain ⟨fs, e1, e2⟩ := hZ.gt hv
  exact px_gf hi hf e1 e2 kk
theorem px_go {x : Nat} {r : Nat × Nat} {rest : List Value} (hi : (xmc μ)[pc]? = some (some (.getfield x))) (hf : xfnd (xfldT (xmo μ)) x = some (10, 0, r)) (hZ : Zs n D J P cl jc b c fn sh K M A N h) (kk : Px sd sd μ (pc + 3) lv (.ref (c + 1) :: rest) h ks Φ) : Px sd sd μ pc lv (.ref c :: rest) h ks Φ := by
  obtain ⟨z1, z2, z3, z4, z5, ⟨Fo, z6, z7⟩, _⟩ := hZ
  exact px_gf hi hf z6 z7 kk
/-- a row of t's sheets -/
theorem px_row {j : Nat} {rest : List Value} (hi : (xmc μ)[pc]? = some (some .aaload)) (hj : j < 7) (hZ : Zs n D J P cl jc b c fn sh K M A N h) (kk : Px sd sd μ (pc + 1) lv (.ref (sh + 1 + j * 6) :: rest) h ks Φ) : Px sd sd μ pc lv (.int (Int32.ofNat j) :: .ref sh :: rest) h ks Φ := by
  obtain ⟨z1, z2, z3, z4, z5, z6, z7, z8, z9, y1, y2⟩ := hZ
  refine px_aal hi y1 (by decide) (by simp) ?_ kk
  rw [List.getElem?_map, List.getElem?_range hj]
  rfl
theorem px_mks {j d : Nat} {rest : List Value} (hi : (xmc μ)[pc]? = some (some .aaload)) (hj : j < 7) (hd : d < 5) (hZ : Zs n D J P cl jc b c fn sh K M A N h) (kk : ∀ q, sh ≤ q → xget h q = some (100, ivs (mks (M j d))) → Px sd sd μ (pc + 1) lv (.ref q :: rest) h ks Φ) : Px sd sd μ pc lv (.int (Int32.ofNat d) :: .ref (sh + 1 + j * 6) :: rest) h ks Φ := by
  obtain ⟨z1, z2, z3, z4, z5, z6, z7, z8, z9, y1, y2⟩ := hZ
  obtain ⟨r, r1, r2⟩ := y2 j hj
  obtain ⟨q1, q2⟩ := r2 d hd
  refine px_aal hi r1 (by decide) (by simp) ?_ (kk (r d) q1 q2)
  rw [List.getElem?_map, List.getElem?_range hd]
  rfl
end YAW
