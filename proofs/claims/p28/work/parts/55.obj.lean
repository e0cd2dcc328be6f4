/-! an object in a heap; its calls -/
section YAH
variable {sd : Option (List Int32)} {μ pc : Nat} {lv : xL} {st : List Value} {h : xH} {ks : Nat} {Φ : xO → Prop}
/-- an object of the class lies at b -/
def Ob (h : xH) (b : Nat) (s : yS) : Prop := yB h b ∧ yput h b s = h
theorem Ob.mk2 {h : xH} {b : Nat} {s : yS} (hB : yB h b) (hg : ∀ k, k < 74 → xget h (b + k) = some (yce b s k)) : Ob h b s := by
  refine ⟨hB, List.ext_getElem? fun i => ?_⟩
  obtain ⟨h1, h2⟩ := hB
  by_cases hi : i < h.length
  · rw [yput_at b s hi]
    by_cases hr : b ≤ i + 4 ∧ i + 4 < b + 74
    · rw [if_pos hr]
      have := hg (i + 4 - b) (by omega)
      rw [xget_hi (by omega), show b + (i + 4 - b) - 4 = i by omega] at this
      exact this.symm
    · rw [if_neg hr, List.getD_eq_getElem?_getD, List.getElem?_eq_getElem hi]
      rfl
  · rw [List.getElem?_eq_none (by rw [yput_len]; omega), List.getElem?_eq_none (by omega)]
theorem Ob.get {h : xH} {b k : Nat} {s : yS} (hO : Ob h b s) (hk : k < 74) : xget h (b + k) = some (yce b s k) := by
  have := yput_get (s := s) hO.1 hk
  rw [hO.2] at this
  exact this
theorem Ob.put {h : xH} {b : Nat} {s : yS} (hO : Ob h b s) (s' : yS) : Ob (yput h b s') b s' := ⟨⟨hO.1.1, by rw [yput_len]; exact hO.1.2⟩, yput_put h b s' s'⟩
/-- where nothing of it has changed -/
theorem Ob.kept {h h' : xH} {b : Nat} {s : yS} (hO : Ob h b s) (hl : h.length ≤ h'.length) (hk : ∀ l, b ≤ l → l < b + 74 → xget h' l = xget h l) : Ob h' b s :=
  Ob.mk2 ⟨hO.1.1, by have := hO.1.2; omega⟩ (fun k h1 => by rw [hk (b + k) (by omega) (by omega)]; exact hO.get h1)
theorem Ob.row0 {h : xH} {b : Nat} {s : yS} (hO : Ob h b s) : xget h b = some (yce b s 0) := hO.get (k := 0) (by decide)
def xint (v : Value) : Bool := match v with
  | .ref _ => false
  | _ => true
theorem xint_m {as : List Value} {ad : Nat → Nat} (h : as.all xint = true) : as.map (xv ad) = as := by
  induction as with
  | nil => rfl
  | cons a r ih =>
    rw [List.all_cons, Bool.and_eq_true] at h
    rw [List.map_cons, ih h.2]
    cases a <;> first | rfl | cases h.1
/-- a call of an object of the class -/
theorem px_cls {x μ' b : Nat} {as rest : List Value} {s : yS} (hi : (xmc μ)[pc]? = some (some (.invokevirtual x))) (hv : xinv (xmo μ) μ x st = some (1, μ', .ref b :: as, rest)) (hd : xcod μ' = true) (hm : xmo μ' = 9) (hh : xmh μ = []) (ha : as.all xint = true) (hO : Ob h b s)
    (k : Yq sd μ' (.ref 0 :: as) s (fun r s' => Px sd sd μ (pc + 3) lv ((r.map (xv (yad b))).toList ++ rest) (yput h b s') ks Φ)) : Px sd sd μ pc lv st h ks Φ := by
  obtain ⟨r, s', k1, k2⟩ := k
  have h1 := k1 h b ks hO.1
  rw [hO.2, List.map_cons, xint_m ha] at h1
  refine px_vi hi hv ?_ hd hh (Qx.at h1 k2)
  show (match xget h b with | some (ci, _) => decide (ci = xmo μ') && Nat.blt ci xNX | none => false) = true
  rw [hO.row0, hm]
  rfl
theorem px_gf {x ci j a : Nat} {r : Nat × Nat} {v : Value} {fs rest : List Value} (hi : (xmc μ)[pc]? = some (some (.getfield x))) (hf : xfnd (xfldT (xmo μ)) x = some (ci, j, r)) (hg : xget h a = some (ci, fs)) (hv : fs[j]? = some v) (kk : Px sd sd μ (pc + 3) lv (v :: rest) h ks Φ) : Px sd sd μ pc lv (.ref a :: rest) h ks Φ := by
  refine px_step hi rfl ?_ kk
  unfold xstep
  dsimp only
  rw [hf]
  dsimp only
  rw [hg]
  show (if ci = ci then _ else none) = _
  rw [if_pos rfl, hv]
theorem px_pf {x ci j kd a : Nat} {r : Nat} {v : Value} {fs rest : List Value} {C : String} {T : u_T} {N : Nat} (hi : (xmc μ)[pc]? = some (some (.putfield x))) (hf : xfnd (xfldT (xmo μ)) x = some (ci, j, kd, r)) (hg : xget h a = some (ci, fs)) (hc : xcl[ci]? = some (C, T, N)) (hj : j < fs.length) (hn : narrow (xtyf ci j) v = v) (hft : fits (xtyf ci j) v = true) (hfin : (T j).2.2.2 = false ∨ (xini μ = true ∧ kd = 0 ∧ (T j).1 = xown (xmo μ))) (kk : Px sd sd μ (pc + 3) lv rest (xset h a (ci, fs.set j v)) ks Φ) : Px sd sd μ pc lv (v :: .ref a :: rest) h ks Φ := by
  refine px_step hi rfl ?_ kk
  unfold xstep
  dsimp only
  rw [hf]
  dsimp only
  rw [hg]
  dsimp only
  rw [hc]
  dsimp only
  rw [if_pos ⟨rfl, hj, hn, hft, hfin⟩]
theorem px_al {a t : Nat} {vs rest : List Value} (hi : (xmc μ)[pc]? = some (some .arraylength)) (hg : xget h a = some (t, vs)) (ht : 100 ≤ t ∧ t < 106) (kk : Px sd sd μ (pc + 1) lv (.int (Int32.ofNat vs.length) :: rest) h ks Φ) : Px sd sd μ pc lv (.ref a :: rest) h ks Φ := by
  refine px_step hi rfl ?_ kk
  unfold xstep
  dsimp only
  rw [hg]
  dsimp only
  rw [if_pos ht]
theorem px_ial {a i : Nat} {v : Value} {vs rest : List Value} (hi : (xmc μ)[pc]? = some (some .iaload)) (hg : xget h a = some (100, vs)) (hl : vs.length < 100000) (hv : vs[i]? = some v) (kk : Px sd sd μ (pc + 1) lv (v :: rest) h ks Φ) : Px sd sd μ pc lv (.int (Int32.ofNat i) :: .ref a :: rest) h ks Φ := by
  have hlt : i < vs.length := (List.getElem?_eq_some_iff.mp hv).1
  refine px_step hi rfl ?_ kk
  unfold xstep
  dsimp only
  rw [hg]
  show (if 100 = 100 then _ else none) = _
  rw [if_pos rfl, xix_ok (by rw [i32_to (by omega)]; omega) (by rw [i32_to (by omega)]; omega), i32_to (by omega)]
  dsimp only
  rw [Int.toNat_natCast, hv]
theorem px_aal {a i t : Nat} {v : Value} {vs rest : List Value} (hi : (xmc μ)[pc]? = some (some .aaload)) (hg : xget h a = some (t, vs)) (ht : 103 ≤ t ∧ t < 106) (hl : vs.length < 100000) (hv : vs[i]? = some v) (kk : Px sd sd μ (pc + 1) lv (v :: rest) h ks Φ) : Px sd sd μ pc lv (.int (Int32.ofNat i) :: .ref a :: rest) h ks Φ := by
  have hlt : i < vs.length := (List.getElem?_eq_some_iff.mp hv).1
  refine px_step hi rfl ?_ kk
  unfold xstep
  dsimp only
  rw [hg]
  dsimp only
  rw [if_pos ht, xix_ok (by rw [i32_to (by omega)]; omega) (by rw [i32_to (by omega)]; omega), i32_to (by omega)]
  dsimp only
  rw [Int.toNat_natCast, hv]
theorem px_ias {a i : Nat} {v : Int32} {vs rest : List Value} (hi : (xmc μ)[pc]? = some (some .iastore)) (hg : xget h a = some (100, vs)) (hl : vs.length < 100000) (hlt : i < vs.length) (kk : Px sd sd μ (pc + 1) lv rest (xset h a (100, vs.set i (.int v))) ks Φ) : Px sd sd μ pc lv (.int v :: .int (Int32.ofNat i) :: .ref a :: rest) h ks Φ := by
  refine px_step hi rfl ?_ kk
  unfold xstep
  dsimp only
  rw [hg]
  show (if 100 = 100 then _ else none) = _
  rw [if_pos rfl, xix_ok (by rw [i32_to (by omega)]; omega) (by rw [i32_to (by omega)]; omega), i32_to (by omega)]
  dsimp only
  rw [Int.toNat_natCast]
theorem px_aas {a i q : Nat} {vs us rest : List Value} (hi : (xmc μ)[pc]? = some (some .aastore)) (hg : xget h a = some (103, vs)) (hq : xget h q = some (100, us)) (hl : vs.length < 100000) (hlt : i < vs.length) (kk : Px sd sd μ (pc + 1) lv rest (xset h a (103, vs.set i (.ref q))) ks Φ) : Px sd sd μ pc lv (.ref q :: .int (Int32.ofNat i) :: .ref a :: rest) h ks Φ := by
  refine px_step hi rfl ?_ kk
  unfold xstep
  dsimp only
  rw [hg, hq]
  dsimp only
  rw [if_pos (Or.inl ⟨rfl, rfl⟩), xix_ok (by rw [i32_to (by omega)]; omega) (by rw [i32_to (by omega)]; omega), i32_to (by omega)]
  dsimp only
  rw [Int.toNat_natCast]
theorem px_nai {m : Nat} {rest : List Value} (hi : (xmc μ)[pc]? = some (some (.newarray .int))) (hm : m < 100000) (kk : Px sd sd μ (pc + 2) lv (.ref (h.length + 4) :: rest) (h ++ [(100, List.replicate m (.int 0))]) (ks + m) Φ) : Px sd sd μ pc lv (.int (Int32.ofNat m) :: rest) h ks Φ := by
  have := px_newI (H := h) (L := []) (n := 0) (L' := [(100, List.replicate m (.int 0))]) (sd := sd) (μ := μ) (pc := pc) (lv := lv) (rest := rest) (ks := ks) (Φ := Φ) hi rfl hm rfl kk
  rw [List.append_nil] at this
  exact this
-- cells of a heap
theorem xset_len (h : xH) (a : Nat) (e : xE) : (xset h a e).length = h.length := by simp [xset]
theorem xget_lt {h : xH} {a : Nat} {e : xE} (hg : xget h a = some e) : 4 ≤ a ∧ a < h.length + 4 := by
  by_cases h4 : 4 ≤ a
  · rw [xget_hi h4] at hg
    have := (List.getElem?_eq_some_iff.mp hg).1
    omega
  · rw [xget_lo h4] at hg
    cases hg
theorem xset_at {h : xH} {a : Nat} {e e0 : xE} (hg : xget h a = some e0) : xget (xset h a e) a = some e := by
  obtain ⟨h1, h2⟩ := xget_lt hg
  rw [xget_hi h1]
  unfold xset
  rw [List.getElem?_set_self (by omega)]
theorem xset_ne {h : xH} {a l : Nat} {e : xE} (ha : 4 ≤ a) (hl : l ≠ a) : xget (xset h a e) l = xget h l := by
  by_cases h4 : 4 ≤ l
  · rw [xget_hi h4, xget_hi h4]
    unfold xset
    rw [List.getElem?_set_ne (by omega)]
  · rw [xget_lo h4, xget_lo h4]
theorem xapp_old {h g : xH} {l : Nat} (hl : l < h.length + 4) : xget (h ++ g) l = xget h l := by
  by_cases h4 : 4 ≤ l
  · rw [xget_hi h4, xget_hi h4, List.getElem?_append_left (by omega)]
  · rw [xget_lo h4, xget_lo h4]
theorem xapp_new (h g : xH) (k : Nat) : xget (h ++ g) (h.length + 4 + k) = g[k]? := ha_get h g k
theorem yce_arr {b k : Nat} {s : yS} {v : Int32} (hk : ykd k = 100) (hv : ∀ j, j < yln k → s k j = v) : yce b s k = (100, List.replicate (yln k) (.int v)) := by
  unfold yce
  rw [hk]
  congr 1
  refine List.ext_getElem? fun i => ?_
  by_cases hi : i < yln k
  · simp only [List.getElem?_map, List.getElem?_range hi, Option.map_some, List.getElem?_replicate, hi, if_true]
    unfold ysl
    rw [yfr_arr hk, hv i hi]
    rfl
  · rw [List.getElem?_eq_none (by simpa using hi), List.getElem?_eq_none (by simpa using hi)]
set_option maxRecDepth 8000 in
theorem Rska_ok (b : Nat) : ∀ k, k < 74 → (Rska b)[k]? = some (yce b sg0 k) := by
  intro k hk
  rcases (show k = 0 ∨ k = 1 ∨ k = 2 ∨ k = 3 ∨ k = 4 ∨ k = 5 ∨ k = 6 ∨ k = 7 ∨ k = 8 ∨ k = 9 ∨ k = 10 ∨ k = 11 ∨ k = 12 ∨ k = 13 ∨ k = 14 ∨ k = 15 ∨ k = 16 ∨ k = 17 ∨ k = 18 ∨ k = 19 ∨ k = 20 ∨ k = 21 ∨ k = 22 ∨ k = 23 ∨ k = 24 ∨ k = 25 ∨ k = 26 ∨ k = 27 ∨ k = 28 ∨ k = 29 ∨ k = 30 ∨ k = 31 ∨ k = 32 ∨ k = 33 ∨ k = 34 ∨ k = 35 ∨ k = 36 ∨ k = 37 ∨ k = 38 ∨ k = 39 ∨ k = 40 ∨ k = 41 ∨ k = 42 ∨ k = 43 ∨ k = 44 ∨ k = 45 ∨ k = 46 ∨ k = 47 ∨ k = 48 ∨ k = 49 ∨ k = 50 ∨ k = 51 ∨ k = 52 ∨ k = 53 ∨ k = 54 ∨ k = 55 ∨ k = 56 ∨ k = 57 ∨ k = 58 ∨ k = 59 ∨ k = 60 ∨ k = 61 ∨ k = 62 ∨ k = 63 ∨ k = 64 ∨ k = 65 ∨ k = 66 ∨ k = 67 ∨ k = 68 ∨ k = 69 ∨ k = 70 ∨ k = 71 ∨ k = 72 ∨ k = 73 by omega) with rfl | rfl | rfl | rfl | rfl | rfl | rfl | rfl | rfl | rfl | rfl | rfl | rfl | rfl | rfl | rfl | rfl | rfl | rfl | rfl | rfl | rfl | rfl | rfl | rfl | rfl | rfl | rfl | rfl | rfl | rfl | rfl | rfl | rfl | rfl | rfl | rfl | rfl | rfl | rfl | rfl | rfl | rfl | rfl | rfl | rfl | rfl | rfl | rfl | rfl | rfl | rfl | rfl | rfl | rfl | rfl | rfl | rfl | rfl | rfl | rfl | rfl | rfl | rfl | rfl | rfl | rfl | rfl | rfl | rfl | rfl | rfl | rfl | rfl
  · rfl
  · rfl
  · rfl
  · exact congrArg some ((yce_arr rfl (fun j hj => if_neg (fun q => absurd q.1 (by decide)))) : yce b sg0 3 = _).symm
  · rfl
  · exact congrArg some ((yce_arr rfl (fun j hj => if_neg (fun q => absurd q.1 (by decide)))) : yce b sg0 5 = _).symm
  · rfl
  · exact congrArg some ((yce_arr rfl (fun j hj => if_neg (fun q => absurd q.1 (by decide)))) : yce b sg0 7 = _).symm
  · rfl
  · exact congrArg some ((yce_arr rfl (fun j hj => if_neg (fun q => absurd q.1 (by decide)))) : yce b sg0 9 = _).symm
  · rfl
  · rfl
  · exact congrArg some ((yce_arr rfl (fun j hj => if_neg (fun q => absurd q.1 (by decide)))) : yce b sg0 12 = _).symm
  · rfl
  · exact congrArg some ((yce_arr rfl (fun j hj => if_neg (fun q => absurd q.1 (by decide)))) : yce b sg0 14 = _).symm
  · rfl
  · rfl
  · exact congrArg some ((yce_arr rfl (fun j hj => if_neg (fun q => absurd q.1 (by decide)))) : yce b sg0 17 = _).symm
  · rfl
  · rfl
  · exact congrArg some ((yce_arr rfl (fun j hj => if_neg (fun q => absurd q.1 (by decide)))) : yce b sg0 20 = _).symm
  · rfl
  · exact congrArg some ((yce_arr rfl (fun j hj => if_pos ⟨rfl, hj⟩)) : yce b sg0 22 = _).symm
  · rfl
  · exact congrArg some ((yce_arr rfl (fun j hj => if_neg (fun q => absurd q.1 (by decide)))) : yce b sg0 24 = _).symm
  · rfl
  · rfl
  · exact congrArg some ((yce_arr rfl (fun j hj => if_neg (fun q => absurd q.1 (by decide)))) : yce b sg0 27 = _).symm
  · rfl
  · exact congrArg some ((yce_arr rfl (fun j hj => if_neg (fun q => absurd q.1 (by decide)))) : yce b sg0 29 = _).symm
  · rfl
  · rfl
  · exact congrArg some ((yce_arr rfl (fun j hj => if_neg (fun q => absurd q.1 (by decide)))) : yce b sg0 32 = _).symm
  · rfl
  · exact congrArg some ((yce_arr rfl (fun j hj => if_neg (fun q => absurd q.1 (by decide)))) : yce b sg0 34 = _).symm
  · rfl
  · exact congrArg some ((yce_arr rfl (fun j hj => if_neg (fun q => absurd q.1 (by decide)))) : yce b sg0 36 = _).symm
  · rfl
  · exact congrArg some ((yce_arr rfl (fun j hj => if_neg (fun q => absurd q.1 (by decide)))) : yce b sg0 38 = _).symm
  · rfl
  · exact congrArg some ((yce_arr rfl (fun j hj => if_neg (fun q => absurd q.1 (by decide)))) : yce b sg0 40 = _).symm
  · rfl
  · rfl
  · exact congrArg some ((yce_arr rfl (fun j hj => if_neg (fun q => absurd q.1 (by decide)))) : yce b sg0 43 = _).symm
  · rfl
  · exact congrArg some ((yce_arr rfl (fun j hj => if_neg (fun q => absurd q.1 (by decide)))) : yce b sg0 45 = _).symm
  · rfl
  · exact congrArg some ((yce_arr rfl (fun j hj => if_neg (fun q => absurd q.1 (by decide)))) : yce b sg0 47 = _).symm
  · rfl
  · exact congrArg some ((yce_arr rfl (fun j hj => if_neg (fun q => absurd q.1 (by decide)))) : yce b sg0 49 = _).symm
  · rfl
  · exact congrArg some ((yce_arr rfl (fun j hj => if_neg (fun q => absurd q.1 (by decide)))) : yce b sg0 51 = _).symm
  · rfl
  · rfl
  · exact congrArg some ((yce_arr rfl (fun j hj => if_neg (fun q => absurd q.1 (by decide)))) : yce b sg0 54 = _).symm
  · rfl
  · exact congrArg some ((yce_arr rfl (fun j hj => if_neg (fun q => absurd q.1 (by decide)))) : yce b sg0 56 = _).symm
  · rfl
  · exact congrArg some ((yce_arr rfl (fun j hj => if_neg (fun q => absurd q.1 (by decide)))) : yce b sg0 58 = _).symm
  · rfl
  · exact congrArg some ((yce_arr rfl (fun j hj => if_neg (fun q => absurd q.1 (by decide)))) : yce b sg0 60 = _).symm
  · rfl
  · exact congrArg some ((yce_arr rfl (fun j hj => if_neg (fun q => absurd q.1 (by decide)))) : yce b sg0 62 = _).symm
  · rfl
  · rfl
  · exact congrArg some ((yce_arr rfl (fun j hj => if_neg (fun q => absurd q.1 (by decide)))) : yce b sg0 65 = _).symm
  · rfl
  · exact congrArg some ((yce_arr rfl (fun j hj => if_neg (fun q => absurd q.1 (by decide)))) : yce b sg0 67 = _).symm
  · rfl
  · exact congrArg some ((yce_arr rfl (fun j hj => if_neg (fun q => absurd q.1 (by decide)))) : yce b sg0 69 = _).symm
  · rfl
  · exact congrArg some ((yce_arr rfl (fun j hj => if_neg (fun q => absurd q.1 (by decide)))) : yce b sg0 71 = _).symm
  · rfl
  · exact congrArg some ((yce_arr rfl (fun j hj => if_neg (fun q => absurd q.1 (by decide)))) : yce b sg0 73 = _).symm
theorem Ob_new (H : xH) (G : xH) : Ob (H ++ Rska (H.length + 4) ++ G) (H.length + 4) sg0 := by
  have hl : (Rska (H.length + 4)).length = 74 := rfl
  refine Ob.mk2 ⟨by omega, by simp only [List.length_append, hl]; omega⟩ (fun k hk => ?_)
  rw [List.append_assoc, ha_get, List.getElem?_append_left (by rw [hl]; exact hk)]
  exact Rska_ok _ k hk
end YAH
