/-! System.arraycopy of ints; a row of rows, of none -/
section XCP
variable {p : Program} {l : Launch} {e : Env} {R : Room} {s : State} {m : MethodId} {args : Array Value} {below : List Frame} {meth : Method} {c : Code} {Q : State → Prop}
theorem xarrV (cI : ClassId) (vs : List Value) : ({ cls := cI, slots := vs.toArray, vm := .none } : Cell) = arrV cI vs.length (fun j => id (vs.getD j .null)) := by
  unfold arrV
  congr 1
  refine Array.ext_getElem? fun j => ?_
  by_cases hj : j < vs.length
  · simp [hj]
  · simp [hj]
theorem xnn {z : Int32} (hz : ¬ z < 0) : z.toInt = (z.toNatClampNeg : Int) := by
  have hz0 : (0 : Int) ≤ z.toInt := by
    have := Int32.not_lt.mp hz
    simpa using Int32.le_iff_toInt_le.mp this
  show z.toInt = ((z.toInt.toNat : Nat) : Int)
  omega
theorem xisI_m {us : List Value} (h : us.all xisI = true) (ad : Nat → Nat) : us.map (xv ad) = us := by
  induction us with
  | nil => rfl
  | cons u r ih =>
    rw [List.all_cons, Bool.and_eq_true] at h
    rw [List.map_cons, ih h.2]
    cases u <;> first | rfl | cases h.1
theorem xisI_fit {us : List Value} (h : us.all xisI = true) {i : Nat} (hi : i < us.length) : fits .int (us.getD i .null) = true := by
  have h1 : us.getD i .null ∈ us := by
    rw [List.getD_eq_getElem?_getD, List.getElem?_eq_getElem hi]
    exact List.getElem_mem hi
  have h2 := List.all_eq_true.mp h _ h1
  cases hq : us.getD i .null <;> rw [hq] at h2 <;> first | rfl | cases h2
theorem xisI_tk {us : List Value} (h : us.all xisI = true) (vm' : Vm) (T : State) (cI : ClassId) {i : Nat} (hi : i < us.length) : (T.setVm vm').takes cI (us.getD i .null) := by
  have h1 : us.getD i .null ∈ us := by
    rw [List.getD_eq_getElem?_getD, List.getElem?_eq_getElem hi]
    exact List.getElem_mem hi
  have h2 := List.all_eq_true.mp h _ h1
  cases hq : us.getD i .null <;> rw [hq] at h2 <;> first | exact trivial | cases h2
set_option maxHeartbeats 1000000 in
theorem x_cpy {D : va_G} {tA : Nat → ClassId} {old : Nat → Nat} {n0 hb kb nL μ x pc : Nat} {lv : xL} {st rest : List Value} {h h' : xH} {ks : Nat}
    (hx : p.tables.exec = Jvm.exec) (hb9 : c.code = xmb μ) (hml : c.maxLocals = nL) (hown : s.vm.findClass (xown (xmo μ)) = some m.cls) (hts : ∀ w ∈ xgw, w.before args s = true) (hK : xK D tA s) (hRf : xmf μ ≤ R.frames) (hRl : xmlo μ ≤ R.locals) (hn0 : n0 ≤ s.heap.size)
    (hdg : decode (xmb μ) pc = .ok (.invokestatic x, 3)) (hm : xcpy (xmo μ) μ x st h = some (rest, h'))
    (kk : xG p l e R s m args below meth c Q D tA old n0 hb kb nL (pc + 3) lv rest h' ks) : xG p l e R s m args below meth c Q D tA old n0 hb kb nL pc lv st h ks := by
  intro H locs ls hz hP hS hl
  unfold xcpy at hm
  split at hm
  · rename_i r9 hf9
    have hw := xcal_ok hf9
    simp only [xcalC, Bool.and_eq_true] at hw
    split at hm
    · rename_i n z1 b z0 a rest9
      split at hm
      · rename_i t0 us t1 vs hg0 hg1
        split at hm
        · rename_i hc
          obtain ⟨rfl, rfl, rfl, rfl, h3, h4, h5, hall, hlo, hfr⟩ := hc
          cases hm
          have hc0 : H[xad old n0 a]? = some (arrV (tA 0) us.length (fun j => id (us.getD j .null))) := by
            have := xP_arr hP hg0 (Nat.le_refl _)
            rw [xisI_m hall, xarrV] at this
            exact this
          have hc1 : H[xad old n0 b]? = some (arrV (tA 0) (vs.map (xv (xad old n0))).length (fun j => id ((vs.map (xv (xad old n0))).getD j .null))) := by
            have := xP_arr hP hg1 (Nat.le_refl _)
            rw [xarrV] at this
            exact this
          obtain ⟨-, k0, comp0, hk0, hkk0, -⟩ := hK.2 0 (by decide)
          intro T hT X
          obtain ⟨vm', X', step⟩ := X.arraycopy hx hown (hts _ (xig_mem hw.1.1.1)) (hts _ (xig_mem hw.1.1.2)) (hts _ (xig_mem hw.1.2)) (hts _ (xig_mem hw.2)) (src := xad old n0 a) (dst := xad old n0 b) (srcPos := 0) (destPos := 0) (n := n) (by rw [hT]; exact hc0) (by rw [hT]; exact hc1)
            (fun _ h => by cases h) (fun _ h => by cases h) (fun h => by cases h) (fun h => by cases h) hk0 hk0 hkk0 hkk0 rfl (by decide) (by decide) h3
            (by rw [xnn h3, arrV_size]; show ¬ (0 : Int) + _ > _; omega)
            (by rw [xnn h3, arrV_size, List.length_map]; show ¬ (0 : Int) + _ > _; omega)
            (fun vm₁ _ i hi => by
              have e : (arrV (tA 0) us.length (fun j => id (us.getD j .null))).slots.getD ((0 : Int32).toNatClampNeg + i) .null = us.getD i .null := by
                rw [show (0 : Int32).toNatClampNeg + i = i from Nat.zero_add i, Array.getD_eq_getD_getElem?, arrV_read _ _ (by omega)]
                rfl
              rw [e]
              exact ⟨xisI_fit hall (by omega), xisI_tk hall _ _ _ (by omega)⟩)
            (g := F0 m pc ls (.int n :: .int 0 :: .ref (xad old n0 b) :: .int 0 :: .ref (xad old n0 a) :: rest.map (xv (xad old n0)))) rfl (by show ls.size = _; rw [hml]; exact hl.1) (rest := rest.map (xv (xad old n0))) rfl (by rw [hb9]; exact hdg) (Nat.le_trans hfr hRf) (by rw [xcat_m]; show 2 * 0 + _ + 18 ≤ _; omega)
          have e1 := va_copied (sp := (0 : Int32).toNatClampNeg) (dp := (0 : Int32).toNatClampNeg) (n := n.toNatClampNeg) (id : Value → Value) (tA 0) (tA 0) (n0 := us.length) (n1 := (vs.map (xv (xad old n0))).length) (fun j => us.getD j .null) (fun j => (vs.map (xv (xad old n0))).getD j .null) (by show 0 + _ ≤ _; omega)
          have e2 : copied (arrV (tA 0) us.length (fun j => id (us.getD j .null))) (arrV (tA 0) (vs.map (xv (xad old n0))).length (fun j => id ((vs.map (xv (xad old n0))).getD j .null))) 0 0 n = ({ cls := tA 0, slots := ((us.take n.toNatClampNeg ++ vs.drop n.toNatClampNeg).map (xv (xad old n0))).toArray, vm := .none } : Cell) := by
            refine Eq.trans e1 ?_
            rw [xarrV]
            have hlen : ((us.take n.toNatClampNeg ++ vs.drop n.toNatClampNeg).map (xv (xad old n0))).length = (vs.map (xv (xad old n0))).length := by
              simp only [List.length_map, List.length_append, List.length_take, List.length_drop]
              omega
            rw [hlen]
            unfold arrV
            congr 1
            refine Array.ext_getElem? fun j => ?_
            by_cases hj : j < (vs.map (xv (xad old n0))).length
            · simp only [Array.getElem?_ofFn, hj, dif_pos, id_eq]
              congr 1
              unfold va_cpy
              rw [show (0 : Int32).toNatClampNeg = 0 from rfl]
              simp only [Nat.zero_le, true_and, Nat.zero_add, Nat.sub_zero]
              rw [List.length_map] at hj
              by_cases hjn : j < n.toNatClampNeg
              · rw [if_pos hjn, List.map_append, List.getD_eq_getElem?_getD, List.getD_eq_getElem?_getD, List.getElem?_append_left (by simp only [List.length_map, List.length_take]; omega), List.map_take, xisI_m hall, List.getElem?_take_of_lt hjn]
              · rw [if_neg hjn, List.map_append, List.getD_eq_getElem?_getD, List.getD_eq_getElem?_getD, List.getElem?_append_right (by simp only [List.length_map, List.length_take]; omega), List.map_drop, List.getElem?_drop]
                congr 2
                simp only [List.length_map, List.length_take]
                omega
            · rw [Array.getElem?_eq_none (by simp only [Array.size_ofFn]; omega), Array.getElem?_eq_none (by simp only [Array.size_ofFn]; omega)]
          rw [e2] at X' step
          have hbl : xad old n0 b < H.size := (Array.getElem?_eq_some_iff.mp hc1).1
          have hA : n0 ≤ xad old n0 b := by
            obtain ⟨kb9, rfl, -⟩ := xget_ok hg1
            rw [xad_new]
            omega
          have oq : ∀ (z : Cell) (q : Nat), q ≠ xad old n0 b → (H.setIfInBounds (xad old n0 b) z)[q]? = H[q]? := fun z q hq => by simp [Array.getElem?_setIfInBounds, Ne.symm hq]
          have hbase : ∀ (L : List (Value × Nat)), ∀ q ∈ locs ++ L.map (fun q => (⟨xad old n0 b, (0 : Int32).toNatClampNeg + q.2⟩ : Loc)), n0 ≤ q.base := fun L q hq => by
            rcases List.mem_append.mp hq with h | h
            · exact hS.2.2 q h
            · obtain ⟨z, -, hz⟩ := List.mem_map.mp h
              rw [← hz]
              exact hA
          have hk9 := fun (L : List (Value × Nat)) => kk (H.setIfInBounds (xad old n0 b) ({ cls := tA 0, slots := ((us.take n.toNatClampNeg ++ vs.drop n.toNatClampNeg).map (xv (xad old n0))).toArray, vm := .none } : Cell)) (locs ++ L.map (fun q => (⟨xad old n0 b, (0 : Int32).toNatClampNeg + q.2⟩ : Loc))) ls (by rw [Array.size_setIfInBounds, hz]; simp [xset])
            (xP_set hP hg1 (by
              unfold xcell
              rw [if_neg (by show ¬ 100 < 100; omega)]
              simp [Array.getElem?_setIfInBounds, hbl]) (oq _))
            ⟨by rw [Array.size_setIfInBounds]; exact hS.1, fun q g1 g2 => by
              rw [oq _ q (fun e => g2 (by rw [e]; exact hA))]
              exact hS.2.1 q g1 g2, hbase L⟩ hl
          have hlx : (xset h b (100, us.take n.toNatClampNeg ++ vs.drop n.toNatClampNeg)).length = h.length := by simp [xset]
          rw [hlx] at hk9
          obtain ⟨t, a1, b1⟩ := hk9 _ _ (by rw [← hT]; rfl) X'
          exact ⟨t, step t a1, b1⟩
        · cases hm
      · cases hm
    · cases hm
  · cases hm
theorem x_anw {D : va_G} {tA : Nat → ClassId} {old : Nat → Nat} {n0 hb kb nL μ x pc : Nat} {lv : xL} {st rest : List Value} {h : xH} {ks : Nat}
    (hx : p.tables.exec = Jvm.exec) (hb9 : c.code = xmb μ) (hown : s.vm.findClass (xown (xmo μ)) = some m.cls) (hts : ∀ w ∈ xgw, w.before args s = true) (hnw : ∀ w ∈ xnw, w.before args s = true) (hK : xK D tA s) (hlb : hb ≤ h.length) (hdg : decode (xmb μ) pc = .ok (.anewarray x, 3)) (hm : xanw (xmo μ) x st = some rest)
    (hRc : (h ++ [(103, ([] : List Value))]).length - hb ≤ R.cells) (hRs : ks - kb ≤ R.slots)
    (kk : xG p l e R s m args below meth c Q D tA old n0 hb kb nL (pc + 3) lv (.ref (h.length + 4) :: rest) (h ++ [(103, [])]) ks) : xG p l e R s m args below meth c Q D tA old n0 hb kb nL pc lv st h ks := by
  intro H locs ls hz hP hS hl
  unfold xanw at hm
  split at hm
  · rename_i pw hf
    have hw := hts _ (xmul_w hf)
    split at hm
    · rename_i n rest9
      split at hm
      · rename_i hn0
        subst hn0
        cases hm
        rw [List.length_append, List.length_singleton] at hRc
        refine W.anewA (t := .int) hx hb9 hown hw (hnw _ (xover_ok (Or.inl rfl))) rfl hdg rfl (by decide) (by decide) (by omega) (by show ks - kb + 0 ≤ _; omega) fun cA kA comp f1 f2 f3 f4 => ?_
        have ecA : cA = tA 3 := Option.some.inj (f1.symm.trans (hK.2 3 (by decide)).1)
        subst ecA
        have hk := kk (H.push { cls := tA 3, slots := Array.replicate (0 : Int32).toNatClampNeg .null, vm := .none }) locs ls (by rw [Array.size_push, hz, List.length_append, List.length_singleton]; omega) (xP_push hP hz (by
            unfold xcell
            rw [if_neg (by show ¬ 103 < 100; omega), Array.getElem?_push_size]
            rfl) (fun q hq => by rw [Array.getElem?_push, if_neg (Nat.ne_of_lt hq)])) ⟨Nat.le_trans hS.1 (by rw [Array.size_push]; omega), fun q h1 h2 => by rw [Array.getElem?_push, if_neg (by have := hS.1; omega)]; exact hS.2.1 q h1 h2, hS.2.2⟩ hl
        rw [List.length_append, List.length_singleton, show h.length + 1 - hb = h.length - hb + 1 by omega] at hk
        simp only [List.map_cons, xv] at hk
        rw [xad_new, ← hz] at hk
        exact hk
      · cases hm
    · cases hm
  · cases hm
end XCP
