/-! runs on numbers, and a rule for each kind of instruction -/
section YR
def Yx (sd : Option (List Int32)) (μ pc : Nat) (lv : xL) (st : List Value) (s : yS) (r : Option Value) (s' : yS) : Prop := ∀ (h : xH) (b ks : Nat) (xlv : xL), yB h b → ySub b lv xlv → Lx sd sd μ pc xlv (st.map (xv (yad b))) (yput h b s) ks (none, r.map (xv (yad b)), yput h b s', ks)
def Yc (sd : Option (List Int32)) (μ : Nat) (as : List Value) (s : yS) (r : Option Value) (s' : yS) : Prop := ∀ (h : xH) (b ks : Nat), yB h b → Cx sd μ (as.map (xv (yad b))) (yput h b s) ks (none, r.map (xv (yad b)), yput h b s', ks)
def Yp (sd : Option (List Int32)) (μ pc : Nat) (lv : xL) (st : List Value) (s : yS) (Φ : Option Value → yS → Prop) : Prop := ∃ r s', Yx sd μ pc lv st s r s' ∧ Φ r s'
def Yq (sd : Option (List Int32)) (μ : Nat) (as : List Value) (s : yS) (Φ : Option Value → yS → Prop) : Prop := ∃ r s', Yc sd μ as s r s' ∧ Φ r s'
theorem xlk_m {ad : Nat → Nat} {k : Nat} {v : Value} : ∀ {lv : xL}, xlk k lv = some v → xlk k (xm ad lv) = some (xv ad v)
  | [], h => by cases h
  | (j, w) :: r, h => by
    unfold xlk at h
    show xlk k ((j, xv ad w) :: xm ad r) = _
    unfold xlk
    cases hj : Nat.beq j k with
    | true => rw [hj] at h; cases h; rfl
    | false => rw [hj] at h; exact xlk_m h
theorem lvargs_m (ad : Nat → Nat) : ∀ (as : List Value) (i : Nat), lv_args i (as.map (xv ad)) = xm ad (lv_args i as)
  | [], _ => rfl
  | v :: r, i => by
    show (i, xv ad v) :: lv_args (if (xv ad v).category = 2 then i + 2 else i + 1) (r.map (xv ad)) = _
    rw [xv_cat, lvargs_m ad r]
    rfl
theorem xinv_m {o μ x k μ' : Nat} {st as rest : List Value} (ad : Nat → Nat) (h : xinv o μ x st = some (k, μ', as, rest)) : xinv o μ x (st.map (xv ad)) = some (k, μ', as.map (xv ad), rest.map (xv ad)) := by
  unfold xinv at h ⊢
  split at h
  · rename_i k2 μ2 r2 hf
    split at h
    · rename_i hle
      rw [if_pos (by rw [List.length_map]; exact hle)]
      split at h
      · rename_i hk
        split at h
        · rename_i hc
          cases h
          rw [if_pos hk, ← List.map_drop, xcat_m, if_pos hc, ← List.map_take, List.map_reverse]
        · cases h
      · rename_i hk
        rw [if_neg hk, ← List.map_drop]
        split at h
        · rename_i b rest9 hd
          split at h
          · rename_i hc
            cases h
            rw [hd]
            simp only [List.map_cons, xv]
            rw [xcat_m, if_pos hc, ← List.map_take, List.map_reverse]
          · cases h
        · cases h
    · cases h
  · cases h
theorem xinv_math {o μ x k μ' : Nat} {st as rest : List Value} (hk : k < 7) (h : xinv o μ x st = some (k, μ', as, rest)) (st' : List Value) : xmath o μ x st' = none := by
  obtain ⟨r', hf, -⟩ := xinv_ok h
  unfold xmath
  rw [hf]
  split
  · rename_i e; cases e; omega
  · rename_i e; cases e; omega
  · rename_i e; cases e; omega
  · rfl
theorem xmath_m {o μ x : Nat} {st rest : List Value} {v : Int32} (ad : Nat → Nat) (h : xmath o μ x st = some (v, rest)) : xmath o μ x (st.map (xv ad)) = some (v, rest.map (xv ad)) := by
  unfold xmath at h ⊢
  repeat' split at h
  all_goals first
    | (cases h; done)
    | (cases h; simp only [List.map_cons, xv]; rw [xcat_m]; simp only [*, if_true, and_self, reduceIte]; done)
theorem xexit_m {μ : Nat} {i : Instr} {st : List Value} {r : Option Value} (ad : Nat → Nat) (h : xexit μ i st = some r) : xexit μ i (st.map (xv ad)) = some (r.map (xv ad)) := by
  unfold xexit at h ⊢
  repeat' split at h
  all_goals first
    | (cases h; done)
    | (cases h; simp_all [xv]; done)
def yrecv (μ' : Nat) (as : List Value) : Bool := match as with
  | .ref k :: _ => Nat.blt k 74 && (Nat.beq (ykd k) (xmo μ') && Nat.blt (xmo μ') xNX)
  | _ => false
theorem yrecv_ok {μ' : Nat} {as : List Value} {h : xH} {b : Nat} {s : yS} (hB : yB h b) (hr : yrecv μ' as = true) : xrecv μ' (as.map (xv (yad b))) (yput h b s) = true := by
  unfold yrecv at hr
  split at hr
  · rename_i k r
    rw [Bool.and_eq_true, Bool.and_eq_true] at hr
    have e3 := yput_get (s := s) hB (Nat.le_of_ble_eq_true hr.1)
    have e1 := Nat.eq_of_beq_eq_true hr.2.1
    unfold xrecv
    simp only [List.map_cons, xv, yad, e3, yce]
    rw [Bool.and_eq_true, decide_eq_true_eq, e1]
    exact ⟨rfl, hr.2.2⟩
  · cases hr
variable {sd : Option (List Int32)} {μ pc : Nat} {lv : xL} {st : List Value} {s : yS} {Φ : Option Value → yS → Prop}
theorem Yq.of {as : List Value} (hc : xcod μ = true) (hl : (lg_sl as).length ≤ xml μ) (k : Yp sd μ 0 (lv_args 0 as) [] s Φ) : Yq sd μ as s Φ := by
  obtain ⟨r, s', k, hΦ⟩ := k
  refine ⟨r, s', fun h b ks hB => ?_, hΦ⟩
  refine Cx.of (Or.inl hc) (by rw [xlg_m]; exact hl) ?_
  rw [lvargs_m]
  exact k h b ks _ hB (fun k v q => xlk_m q)
theorem Yq.imp {as : List Value} {Ψ : Option Value → yS → Prop} (h : Yq sd μ as s Φ) (k : ∀ r s', Φ r s' → Ψ r s') : Yq sd μ as s Ψ := by
  obtain ⟨r, s', h1, h2⟩ := h
  exact ⟨r, s', h1, k _ _ h2⟩
theorem Yp.imp {Ψ : Option Value → yS → Prop} (h : Yp sd μ pc lv st s Φ) (k : ∀ r s', Φ r s' → Ψ r s') : Yp sd μ pc lv st s Ψ := by
  obtain ⟨r, s', h1, h2⟩ := h
  exact ⟨r, s', h1, k _ _ h2⟩
theorem yp_step {i : Instr} {pc' : Nat} {lv' : xL} {st' : List Value} {s' : yS} (hi : (xmc μ)[pc]? = some (some i)) (he : ystep (xmo μ) (xml μ) i pc lv st s = some (pc', lv', st', s')) (k : Yp sd μ pc' lv' st' s' Φ) : Yp sd μ pc lv st s Φ := by
  obtain ⟨r, s9, k, hΦ⟩ := k
  refine ⟨r, s9, fun h b ks xlv hB hs => ?_, hΦ⟩
  obtain ⟨hp, xlv', h1, h2⟩ := ystep_ok (ini := xini μ) (sc := sd) (ks := ks) hB hs he
  exact lx_step hi hp h1 (k h b ks xlv' hB h2)
/-- n instructions, one behind the other -/
def yrun (o nL : Nat) (cod : List (Option Instr)) : Nat → Nat → xL → List Value → yS → Option (Nat × xL × List Value × yS)
  | 0, pc, lv, st, s => some (pc, lv, st, s)
  | n + 1, pc, lv, st, s => match cod[pc]? with
    | some (some i) => match ystep o nL i pc lv st s with
      | some (pc', lv', st', s') => yrun o nL cod n pc' lv' st' s'
      | none => none
    | _ => none
theorem yp_run (n : Nat) {pc' : Nat} {lv' : xL} {st' : List Value} {s' : yS} (he : yrun (xmo μ) (xml μ) (xmc μ) n pc lv st s = some (pc', lv', st', s')) (k : Yp sd μ pc' lv' st' s' Φ) : Yp sd μ pc lv st s Φ := by
  induction n generalizing pc lv st s with
  | zero => cases he; exact k
  | succ n ih =>
    unfold yrun at he
    split at he
    · rename_i i hi
      split at he
      · rename_i hs
        exact yp_step hi hs (ih he)
      · cases he
    · cases he
theorem yp_sel (ks : List Nat) (k : Yp sd μ pc (ysel ks lv) st s Φ) : Yp sd μ pc lv st s Φ := by
  obtain ⟨r, s9, k, hΦ⟩ := k
  exact ⟨r, s9, fun h b ks xlv hB hs => k h b ks xlv hB (fun j v q => hs j v (ysel_ok lv q)), hΦ⟩
theorem yp_if {c : Jvm.ClassFile.Cond} {off : Int} {x : Int32} {t : Nat} (hi : (xmc μ)[pc]? = some (some (.ifCond c off))) (ht : xj pc off = some t) (k1 : xcmp c x 0 = true → Yp sd μ t lv st s Φ) (k2 : xcmp c x 0 = false → Yp sd μ (pc + 3) lv st s Φ) : Yp sd μ pc lv (.int x :: st) s Φ := by
  cases hb : xcmp c x 0 with
  | true =>
    obtain ⟨r, s9, k, hΦ⟩ := k1 hb
    exact ⟨r, s9, fun h b ks xlv hB hs => lx_step hi rfl (by unfold xstep; show (match xj pc off with | some t => bif xcmp c x 0 then some (t, xlv, st.map (xv (yad b)), yput h b s, ks) else some (pc + 3, xlv, st.map (xv (yad b)), yput h b s, ks) | none => none) = _; rw [ht]; show (bif xcmp c x 0 then _ else _) = _; rw [hb]; rfl) (k h b ks xlv hB hs), hΦ⟩
  | false =>
    obtain ⟨r, s9, k, hΦ⟩ := k2 hb
    exact ⟨r, s9, fun h b ks xlv hB hs => lx_step hi rfl (by unfold xstep; show (match xj pc off with | some t => bif xcmp c x 0 then some (t, xlv, st.map (xv (yad b)), yput h b s, ks) else some (pc + 3, xlv, st.map (xv (yad b)), yput h b s, ks) | none => none) = _; rw [ht]; show (bif xcmp c x 0 then _ else _) = _; rw [hb]; rfl) (k h b ks xlv hB hs), hΦ⟩
theorem yp_icmp {c : Jvm.ClassFile.Cond} {off : Int} {x y : Int32} {t : Nat} (hi : (xmc μ)[pc]? = some (some (.if_icmp c off))) (ht : xj pc off = some t) (k1 : xcmp c x y = true → Yp sd μ t lv st s Φ) (k2 : xcmp c x y = false → Yp sd μ (pc + 3) lv st s Φ) : Yp sd μ pc lv (.int y :: .int x :: st) s Φ := by
  cases hb : xcmp c x y with
  | true =>
    obtain ⟨r, s9, k, hΦ⟩ := k1 hb
    exact ⟨r, s9, fun h b ks xlv hB hs => lx_step hi rfl (by unfold xstep; show (match xj pc off with | some t => bif xcmp c x y then some (t, xlv, st.map (xv (yad b)), yput h b s, ks) else some (pc + 3, xlv, st.map (xv (yad b)), yput h b s, ks) | none => none) = _; rw [ht]; show (bif xcmp c x y then _ else _) = _; rw [hb]; rfl) (k h b ks xlv hB hs), hΦ⟩
  | false =>
    obtain ⟨r, s9, k, hΦ⟩ := k2 hb
    exact ⟨r, s9, fun h b ks xlv hB hs => lx_step hi rfl (by unfold xstep; show (match xj pc off with | some t => bif xcmp c x y then some (t, xlv, st.map (xv (yad b)), yput h b s, ks) else some (pc + 3, xlv, st.map (xv (yad b)), yput h b s, ks) | none => none) = _; rw [ht]; show (bif xcmp c x y then _ else _) = _; rw [hb]; rfl) (k h b ks xlv hB hs), hΦ⟩
theorem yp_ret {i : Instr} {r : Option Value} (hi : (xmc μ)[pc]? = some (some i)) (hp : xrt i = true) (hr : xexit μ i st = some r) (k : Φ r s) : Yp sd μ pc lv st s Φ :=
  ⟨r, s, fun h b ks xlv hB hs => lx_ret hi hp (xexit_m (yad b) hr), k⟩
theorem xex_int {μ : Nat} {v : Int32} (h : xmr μ = some .int) : xexit μ .ireturn [.int v] = some (some (.int v)) := by
  unfold xexit
  dsimp only
  rw [h]
  dsimp only
  rw [if_pos (show narrow FieldType.int (.int v) = .int v from rfl)]
theorem xex_bool {μ : Nat} {v : Int32} (h : xmr μ = some .boolean) (hv : v = 0 ∨ v = 1) : xexit μ .ireturn [.int v] = some (some (.int v)) := by
  unfold xexit
  dsimp only
  rw [h]
  dsimp only
  rw [if_pos (show narrow FieldType.boolean (.int v) = .int v by rcases hv with rfl | rfl <;> rfl)]
theorem yp_ri {v : Int32} (hi : (xmc μ)[pc]? = some (some .ireturn)) (hm : xmr μ = some .int) (k : Φ (some (.int v)) s) : Yp sd μ pc lv [.int v] s Φ := yp_ret hi rfl (xex_int hm) k
theorem yp_rz {v : Int32} (hi : (xmc μ)[pc]? = some (some .ireturn)) (hm : xmr μ = some .boolean) (hv : v = 0 ∨ v = 1) (k : Φ (some (.int v)) s) : Yp sd μ pc lv [.int v] s Φ := yp_ret hi rfl (xex_bool hm hv) k
theorem yp_rl {v : Int64} (hi : (xmc μ)[pc]? = some (some .lreturn)) (hm : xmr μ = some .long) (k : Φ (some (.long v)) s) : Yp sd μ pc lv [.long v] s Φ := yp_ret hi rfl (by unfold xexit; dsimp only; rw [if_pos hm]) k
theorem yp_rv (hi : (xmc μ)[pc]? = some (some .return_)) (hm : xmr μ = none) (k : Φ none s) : Yp sd μ pc lv [] s Φ := yp_ret hi rfl (by unfold xexit; dsimp only; rw [if_pos hm]) k
/-- behind a call -/
def ybk (sd : Option (List Int32)) (μ pc : Nat) (lv : xL) (rest : List Value) (Φ : Option Value → yS → Prop) (r : Option Value) (s' : yS) : Prop := match r with
  | some v => Yp sd μ pc lv (v :: rest) s' Φ
  | none => Yp sd μ pc lv rest s' Φ
theorem ybk_ok {rest : List Value} {r1 : Option Value} {s1 : yS} (hk : ybk sd μ pc lv rest Φ r1 s1) : ∃ r2 s2, (∀ (h : xH) (b ks : Nat) (xlv : xL), yB h b → ySub b lv xlv → Lx sd sd μ pc xlv ((r1.map (xv (yad b))).toList ++ rest.map (xv (yad b))) (yput h b s1) ks (none, r2.map (xv (yad b)), yput h b s2, ks)) ∧ Φ r2 s2 := by
  cases r1 with
  | none => exact hk
  | some v => exact hk
theorem yp_vi {x μ' : Nat} {as rest : List Value} (hi : (xmc μ)[pc]? = some (some (.invokevirtual x))) (hv : xinv (xmo μ) μ x st = some (1, μ', as, rest)) (hr : yrecv μ' as = true) (hd : xcod μ' = true) (k : Yq sd μ' as s (ybk sd μ (pc + 3) lv rest Φ)) : Yp sd μ pc lv st s Φ := by
  obtain ⟨r1, s1, k1, hk⟩ := k
  obtain ⟨r2, s2, k2, hΦ⟩ := ybk_ok hk
  exact ⟨r2, s2, fun h b ks xlv hB hs => lx_vi hi (xinv_m (yad b) hv) (yrecv_ok hB hr) hd (k1 h b ks hB) (k2 h b ks xlv hB hs), hΦ⟩
theorem yp_st {x μ' : Nat} {as rest : List Value} (hi : (xmc μ)[pc]? = some (some (.invokestatic x))) (hv : xinv (xmo μ) μ x st = some (2, μ', as, rest)) (k : Yq sd μ' as s (ybk sd μ (pc + 3) lv rest Φ)) : Yp sd μ pc lv st s Φ := by
  obtain ⟨r1, s1, k1, hk⟩ := k
  obtain ⟨r2, s2, k2, hΦ⟩ := ybk_ok hk
  exact ⟨r2, s2, fun h b ks xlv hB hs => lx_st hi (xinv_math (by decide) hv _) (xinv_m (yad b) hv) (k1 h b ks hB) (k2 h b ks xlv hB hs), hΦ⟩
theorem yp_sn {x μ' : Nat} {as rest : List Value} (hi : (xmc μ)[pc]? = some (some (.invokestatic x))) (hv : xinv (xmo μ) μ x st = some (3, μ', as, rest)) (hd : xcod μ' = true) (k : Yq sd μ' as s (ybk sd μ (pc + 3) lv rest Φ)) : Yp sd μ pc lv st s Φ := by
  obtain ⟨r1, s1, k1, hk⟩ := k
  obtain ⟨r2, s2, k2, hΦ⟩ := ybk_ok hk
  exact ⟨r2, s2, fun h b ks xlv hB hs => lx_sn hi (xinv_math (by decide) hv _) (xinv_m (yad b) hv) hd (k1 h b ks hB) (k2 h b ks xlv hB hs), hΦ⟩
theorem yp_math {x : Nat} {v : Int32} {rest : List Value} (hi : (xmc μ)[pc]? = some (some (.invokestatic x))) (hm : xmath (xmo μ) μ x st = some (v, rest)) (k : Yp sd μ (pc + 3) lv (.int v :: rest) s Φ) : Yp sd μ pc lv st s Φ := by
  obtain ⟨r2, s2, k2, hΦ⟩ := k
  exact ⟨r2, s2, fun h b ks xlv hB hs => lx_math hi (xmath_m (yad b) hm) (k2 h b ks xlv hB hs), hΦ⟩
theorem yfr_arr {k j : Nat} (h : ykd k = 100) : yfr k j = 0 := by
  unfold yfr
  rw [h]
  rfl
theorem xix_ok {x : Int32} {n : Nat} (h0 : 0 ≤ x.toInt) (h1 : x.toInt.toNat < n) : xix x n = some x.toInt.toNat := by
  unfold xix
  have e : x.toNatClampNeg = x.toInt.toNat := rfl
  rw [if_neg (by rw [Int32.lt_iff_toInt_lt]; show ¬ x.toInt < 0; omega), if_neg (by omega), e]
theorem yp_iald {x : Int32} {k : Nat} {rest : List Value} (hi : (xmc μ)[pc]? = some (some .iaload)) (hk : k < 74) (hd : ykd k = 100) (h0 : 0 ≤ x.toInt) (h1 : x.toInt.toNat < yln k) (kk : Yp sd μ (pc + 1) lv (.int (s k x.toInt.toNat) :: rest) s Φ) : Yp sd μ pc lv (.int x :: .ref k :: rest) s Φ := by
  obtain ⟨r2, s2, k2, hΦ⟩ := kk
  refine ⟨r2, s2, fun h b ks xlv hB hs => lx_step hi rfl ?_ (k2 h b ks xlv hB hs), hΦ⟩
  have e3 := yput_get (s := s) hB hk
  have e4 : (yce b s k).2[x.toInt.toNat]? = some (.int (s k x.toInt.toNat)) := by
    simp only [yce, List.getElem?_map, List.getElem?_range h1, Option.map_some]
    unfold ysl
    rw [yfr_arr hd]
    rfl
  simp only [xstep, List.map_cons, xv, yad, e3]
  show (if ykd k = 100 then _ else _) = _
  rw [if_pos hd, show (yce b s k).2.length = yln k by simp [yce], xix_ok h0 h1]
  dsimp only
  rw [e4]
theorem yp_iast {x v : Int32} {k : Nat} {rest : List Value} (hi : (xmc μ)[pc]? = some (some .iastore)) (hk : k < 74) (hd : ykd k = 100) (h0 : 0 ≤ x.toInt) (h1 : x.toInt.toNat < yln k) (kk : Yp sd μ (pc + 1) lv rest (yup s k x.toInt.toNat v) Φ) : Yp sd μ pc lv (.int v :: .int x :: .ref k :: rest) s Φ := by
  obtain ⟨r2, s2, k2, hΦ⟩ := kk
  refine ⟨r2, s2, fun h b ks xlv hB hs => lx_step hi rfl ?_ (k2 h b ks xlv hB hs), hΦ⟩
  have e3 := yput_get (s := s) hB hk
  simp only [xstep, List.map_cons, xv, yad, e3]
  show (if ykd k = 100 then _ else _) = _
  rw [if_pos hd, show (yce b s k).2.length = yln k by simp [yce], xix_ok h0 h1]
  dsimp only
  rw [← yput_set hB hk h1 (yfr_arr hd), hd, show (yce b s k).1 = 100 from hd]
end YR
