section XLC
theorem xlg_m (ad : Nat → Nat) : ∀ as : List Value, (lg_sl (as.map (xv ad))).length = (lg_sl as).length
  | [] => rfl
  | v :: r => by
    unfold lg_sl
    rw [List.map_cons, List.flatMap_cons, List.flatMap_cons, List.length_append, List.length_append, xv_cat]
    have := xlg_m ad r
    unfold lg_sl at this
    rw [this]
    split <;> rfl
theorem xlv_m (ad : Nat → Nat) : ∀ (as : List Value) (k : Nat), lv_args k (as.map (xv ad)) = xm ad (lv_args k as)
  | [], _ => rfl
  | v :: r, k => by
    unfold lv_args
    rw [List.map_cons]
    dsimp only
    rw [xv_cat, xlv_m ad r]
    rfl
variable {p : Program} {l : Launch} {e : Env} {R : Room} {s : State} {m : MethodId} {args : Array Value} {below : List Frame} {meth : Method} {c : Code} {Q : State → Prop}
theorem x_thr {D : va_G} {tA : Nat → ClassId} {old : Nat → Nat} {n0 hb kb μ pc ci : Nat} {lv : xL} {h : xH} {ks : Nat} {r : Nat × Nat × Nat × Nat × Nat × Nat}
    (hx : p.tables.exec = Jvm.exec) (hb9 : c.code = xmb μ) (hml : c.maxLocals = xml μ) (hown : s.vm.findClass (xown (xmo μ)) = some m.cls) (hts : ∀ w ∈ xgw, w.before args s = true) (hnw : ∀ w ∈ xnw, w.before args s = true) (hK : xK D tA s) (hZ : xZ old n0 s) (hnoh : ∀ x ∈ c.exceptionTable.toList, False) (hlocks : meth.locks = false) (hst : l.stackTraces = false)
    (hRf : xmf μ ≤ R.frames) (hRl : xmlo μ ≤ R.locals) (hlb : hb ≤ h.length) (hkb : kb ≤ ks) (ht : xfnd (xthrT μ) pc = some (ci, r)) (hRc : (h ++ [(ci, [])]).length - hb ≤ R.cells) (hRs : ks + 6 - kb ≤ R.slots) :
    xG p l e R s m args below meth c (vx_MQ below (xQc D tA old n0 (some ci, none, h ++ [(ci, [])], ks + 6)) (xXc D tA old n0 (some ci, none, h ++ [(ci, [])], ks + 6)) args s ((h ++ [(ci, [])]).length - hb) (ks + 6 - kb) (fun q => n0 ≤ q)) D tA old n0 hb kb (xml μ) pc lv [] h ks := by
  obtain ⟨ik, is, ic, wd, p1, p2⟩ := r
  have hm := xfnd_mem ht
  have hμ : μ < xNM := by
    rcases Nat.lt_or_ge μ xNM with q | q
    · exact q
    · rw [xthr_out (by omega)] at hm
      cases hm
  have h1 := List.all_eq_true.mp (List.all_eq_true.mp xthr_all μ (List.mem_range.mpr hμ)) _ hm
  unfold xthrC at h1
  dsimp only at h1
  split at h1
  · rename_i C T N hc
    simp only [Bool.and_eq_true, decide_eq_true_eq] at h1
    obtain ⟨⟨⟨⟨⟨⟨⟨⟨⟨⟨hk, w1⟩, w2⟩, o1⟩, o2⟩, hs⟩, c0⟩, c3⟩, hcc⟩, hf5⟩, hl82⟩ := h1
    have h2 := List.all_eq_true.mp xthk_all _ hk
    unfold xthkC at h2
    dsimp only at h2
    rw [hc] at h2
    simp only [Bool.and_eq_true, decide_eq_true_eq] at h2
    obtain ⟨⟨⟨⟨hN, hlt⟩, hfit⟩, hsup⟩, hat⟩ := h2
    subst hN
    obtain ⟨z, hz1, hz2⟩ := List.any_eq_true.mp hs
    simp only [Bool.and_eq_true, decide_eq_true_eq] at hz2
    obtain ⟨sa, hsa⟩ := hZ.2.2.1 z hz1
    rw [hz2.1, hz2.2] at hsa
    have hdec : ∀ (k : Nat) (i : Instr) (n : Nat), (xmc μ)[k]? = some (some i) → xlen i = n + 1 → decode (xmb μ) k = .ok (i, n + 1) := fun k i n h9 hn => by
      have := xchk_ok (xdec μ) h9
      rw [Nat.zero_add] at this
      exact xdl this hn
    have hats : ∀ w ∈ vx_atS (xown (xmo μ)) ic C xsup, vx_ot w = true ∧ w.before args s = true := fun w hw => by
      have h9 := List.all_eq_true.mp hat w hw
      simp only [Bool.and_eq_true, Bool.or_eq_true, decide_eq_true_eq] at h9
      refine ⟨h9.1.1, ?_⟩
      rcases h9.1.2 with h8 | h8
      · exact hts _ (List.mem_filter.mpr ⟨h9.2, h8⟩)
      · exact hnw _ (List.mem_filter.mpr ⟨h9.2, h8⟩)
    intro H locs ls hz hP hS hl
    have hgood : ∀ w ∈ Jvm.Cond.classLink (xown (xmo μ)) ik C :: Jvm.Cond.initialized C :: vx_atS (xown (xmo μ)) ic C xsup, vx_ot w = true := fun w hw => by
      rcases List.mem_cons.mp hw with rfl | hw
      · exact o1
      · rcases List.mem_cons.mp hw with rfl | hw
        · exact o2
        · exact (hats w hw).1
    have hXC : ∀ (t : State) (ce : Cell), s.vm.Alike t.vm → t.heap.size = H.size + 1 → t.heap[H.size]? = some ce → ce.vm = .none → s.vm.findClass C = some ce.cls → (∀ q : Nat, q < H.size → t.heap[q]? = H[q]?) → xXc D tA old n0 (some ci, none, h ++ [(ci, [])], ks + 6) C s t := fun t ce hal hz9 hce hcv hcl hq => by
      refine ⟨⟨⟨ci, C, T, 0, rfl, hc, rfl⟩, by rw [hz9, hz]; simp only [List.length_append, List.length_singleton]; omega, xP_push hP hz ?_ hq⟩, by have := hS.1; omega, fun q h7 h8 => (hq q (Nat.lt_of_lt_of_le h7 hS.1)).trans (hS.2.1 q h7 h8)⟩
      unfold xcell
      rw [if_pos hlt]
      obtain ⟨-, hfc, -⟩ := hK.1.1 _ _ hc
      exact ⟨_, hc, ce, hce, Option.some.inj (hcl.symm.trans hfc), hcv, fun k hk => absurd hk (Nat.not_lt_zero k)⟩
    rw [List.length_append, List.length_singleton] at hRc ⊢
    by_cases hw : wd = 0
    · rw [if_pos hw] at hcc
      simp only [Bool.and_eq_true, decide_eq_true_eq] at hcc
      exact x_throwS (own := xown (xmo μ)) (cls := C) (names := xsup) (ik := ik) (is := is) (ic := ic) (A := fun q => n0 ≤ q) hx hb9 hst hown hfit (fun n hn => List.all_eq_true.mp hsup n hn) (hts _ (xig_mem w1)) (hts _ (xig_mem w2)) hsa (fun w hw => (hats w hw).2) hgood hZ.1 hZ.2.1 hS (hl.1.trans hml.symm)
        (hdec _ _ 2 c0 rfl) (hdec _ _ 0 c3 rfl) (hdec _ _ 1 hcc.1.1 rfl) (hdec _ _ 2 hcc.1.2 rfl) (hdec _ _ 0 hcc.2 rfl) (fun x hx => (hnoh x hx).elim) (Nat.lt_of_lt_of_le hf5 hRf) (Nat.le_trans hl82 hRl) (by omega) (by omega) hlocks hXC hS.2.2 (by omega) (by omega)
    · rw [if_neg hw] at hcc
      simp only [Bool.and_eq_true, decide_eq_true_eq] at hcc
      exact x_throwSW (own := xown (xmo μ)) (cls := C) (names := xsup) (ik := ik) (is := is) (ic := ic) (A := fun q => n0 ≤ q) hx hb9 hst hown hfit (fun n hn => List.all_eq_true.mp hsup n hn) (hts _ (xig_mem w1)) (hts _ (xig_mem w2)) hsa (fun w hw => (hats w hw).2) hgood hZ.1 hZ.2.1 hS (hl.1.trans hml.symm)
        (hdec _ _ 2 c0 rfl) (hdec _ _ 0 c3 rfl) (hdec _ _ 2 hcc.1.1 rfl) (hdec _ _ 2 hcc.1.2 rfl) (hdec _ _ 0 hcc.2 rfl) (fun x hx => (hnoh x hx).elim) (Nat.lt_of_lt_of_le hf5 hRf) (Nat.le_trans hl82 hRl) (by omega) (by omega) hlocks hXC hS.2.2 (by omega) (by omega)
  · cases h1
end XLC
