section XMC
def xmulC (o : Nat) (q : Nat × Nat × Nat) : Bool := xig (.classLink (xown o) q.1 ("[" ++ (xtT q.2.1).toString)) q.2.2
set_option maxRecDepth 100000 in
theorem xmul_all : ∀ o, o < xNO → (xmulT o).all (xmulC o) = true := by decide +kernel
theorem xmul_w {o x t p : Nat} (h : xfnd (xmulT o) x = some (t, p)) : Jvm.Cond.classLink (xown o) x ("[" ++ (xtT t).toString) ∈ xgw := by
  have hm := xfnd_mem h
  by_cases ho : o < xNO
  · exact xig_mem (List.all_eq_true.mp (xmul_all o ho) _ hm)
  · have : xmulT o = [] := by
      unfold xNO at ho
      unfold xmulT
      split <;> first | omega | rfl
    rw [this] at hm
    cases hm
set_option maxRecDepth 100000 in
theorem xover_all : [3, 4, 5].all (fun t => lw_tbl.any (fun w => decide (w = Jvm.Cond.arrayOver (xtT t)))) = true := by decide +kernel
theorem xover_ok {t : Nat} (ht : t = 3 ∨ t = 4 ∨ t = 5) : Jvm.Cond.arrayOver (xtT t) ∈ xnw := by
  obtain ⟨w, hw, he⟩ := List.any_eq_true.mp (List.all_eq_true.mp xover_all t (by rcases ht with rfl | rfl | rfl <;> simp))
  have := of_decide_eq_true he
  subst this
  exact List.mem_filter.mpr ⟨hw, rfl⟩
theorem xP_app {D : va_G} {tA : Nat → ClassId} {old : Nat → Nat} {n0 : Nat} {h es : xH} {H H1 : Heap} (hP : xP D tA (xad old n0) h H) (hz : H.size = n0 + h.length) (hq : ∀ q, q < H.size → H1[q]? = H[q]?) (h1 : ∀ (j : Nat) (e : xE), es[j]? = some e → xcell D tA (xad old n0) (H.size + j) e H1) : xP D tA (xad old n0) (h ++ es) H1 := by
  intro j e hj
  by_cases hlt : j < h.length
  · rw [List.getElem?_append_left hlt] at hj
    exact xcell_kept (hP j e hj) (hq _ (by rw [xad_new]; omega))
  · rw [List.getElem?_append_right (by omega)] at hj
    have := h1 _ _ hj
    rw [xad_new, show n0 + j = H.size + (j - h.length) by omega]
    exact this
theorem xmk2_len (t n k lab : Nat) : (xmk2 t n k lab).length = 1 + n := by
  simp [xmk2]; omega
theorem xmk2_ok {D : va_G} {tA : Nat → ClassId} {old : Nat → Nat} {n0 L0 t N K : Nat} {H1 : Heap} (ht : t = 0 ∨ t = 2) (h0 : H1[n0 + L0]? = some { cls := tA (if t = 0 then 3 else 5), slots := ((List.range N).map (fun j => Value.ref (n0 + L0 + 1 + j))).toArray, vm := .none })
    (h1 : ∀ j, j < N → H1[n0 + L0 + 1 + j]? = some { cls := tA t, slots := Array.replicate K (defaultValue (xtT t)), vm := .none }) : ∀ (j : Nat) (e : xE), (xmk2 t N K (L0 + 4))[j]? = some e → xcell D tA (xad old n0) (n0 + L0 + j) e H1 := by
  intro j e he
  unfold xmk2 at he
  cases j with
  | zero =>
    simp only [List.getElem?_cons_zero, Option.some.injEq] at he
    subst he
    unfold xcell
    rw [if_neg (by show ¬ 100 + _ < 100; omega)]
    show H1[n0 + L0 + 0]? = _
    rw [Nat.add_zero, h0]
    have e1 : ∀ i : Nat, xv (xad old n0) (Value.ref (L0 + 4 + 1 + i)) = Value.ref (n0 + L0 + 1 + i) := fun i => by
      show Value.ref (xad old n0 (L0 + 4 + 1 + i)) = _
      rw [show L0 + 4 + 1 + i = (L0 + 1 + i) + 4 by omega, xad_new, show n0 + (L0 + 1 + i) = n0 + L0 + 1 + i by omega]
    simp only [Nat.add_sub_cancel_left, List.map_map, Function.comp_def, e1]
  | succ j =>
    rw [List.getElem?_cons_succ, List.getElem?_replicate] at he
    split at he
    · rename_i hj
      cases he
      unfold xcell
      rw [if_neg (by show ¬ 100 + _ < 100; omega)]
      rw [show n0 + L0 + (j + 1) = n0 + L0 + 1 + j by omega, h1 j hj]
      have hd : defaultValue (xtT t) = xdv t := xdv_ok (by omega)
      simp only [Nat.add_sub_cancel_left, List.map_replicate, xdv_map, List.toArray_replicate, hd]
    · cases he
theorem xflat_len {f : Nat → xH} {c : Nat} (hf : ∀ i, (f i).length = c) : ∀ n, ((List.range n).flatMap f).length = n * c
  | 0 => by simp
  | n + 1 => by
    rw [List.range_succ, List.flatMap_append, List.length_append, xflat_len hf n, Nat.succ_mul]
    simp [hf]
theorem xflat {f : Nat → xH} {c : Nat} (hf : ∀ i, (f i).length = c) : ∀ (n idx : Nat) (e : xE), ((List.range n).flatMap f)[idx]? = some e → ∃ i q, i < n ∧ q < c ∧ idx = i * c + q ∧ (f i)[q]? = some e
  | 0, idx, e, h => by simp at h
  | n + 1, idx, e, h => by
    rw [List.range_succ, List.flatMap_append] at h
    by_cases hlt : idx < n * c
    · rw [List.getElem?_append_left (by rw [xflat_len hf]; exact hlt)] at h
      obtain ⟨i, q, h1, h2, h3, h4⟩ := xflat hf n idx e h
      exact ⟨i, q, by omega, h2, h3, h4⟩
    · rw [List.getElem?_append_right (by rw [xflat_len hf]; omega), xflat_len hf] at h
      simp only [List.flatMap_cons, List.flatMap_nil, List.append_nil] at h
      have hq := (List.getElem?_eq_some_iff.mp h).1
      rw [hf] at hq
      exact ⟨n, idx - n * c, by omega, hq, by omega, h⟩
theorem xmk3_len (n k r lab : Nat) : (xmk3 n k r lab).length = 1 + n * (1 + k) := by
  unfold xmk3
  rw [List.length_cons, xflat_len (fun i => xmk2_len _ _ _ _)]
  omega
theorem xmk3_ok {D : va_G} {tA : Nat → ClassId} {old : Nat → Nat} {n0 L0 N K M : Nat} {H1 : Heap} (h0 : H1[n0 + L0]? = some { cls := tA 4, slots := ((List.range N).map (fun j => Value.ref (n0 + L0 + 1 + j * (1 + K)))).toArray, vm := .none })
    (h1 : ∀ j, j < N → H1[n0 + L0 + 1 + j * (1 + K)]? = some { cls := tA 3, slots := ((List.range K).map (fun q => Value.ref (n0 + L0 + 1 + j * (1 + K) + 1 + q))).toArray, vm := .none } ∧ ∀ q, q < K → H1[n0 + L0 + 1 + j * (1 + K) + 1 + q]? = some { cls := tA 0, slots := Array.replicate M (defaultValue (xtT 0)), vm := .none }) :
    ∀ (j : Nat) (e : xE), (xmk3 N K M (L0 + 4))[j]? = some e → xcell D tA (xad old n0) (n0 + L0 + j) e H1 := by
  intro j e he
  unfold xmk3 at he
  cases j with
  | zero =>
    simp only [List.getElem?_cons_zero, Option.some.injEq] at he
    subst he
    unfold xcell
    rw [if_neg (by show ¬ (104 : Nat) < 100; omega)]
    show H1[n0 + L0 + 0]? = _
    rw [Nat.add_zero, h0]
    have e1 : ∀ i : Nat, xv (xad old n0) (Value.ref (L0 + 4 + 1 + i * (1 + K))) = Value.ref (n0 + L0 + 1 + i * (1 + K)) := fun i => by
      show Value.ref (xad old n0 (L0 + 4 + 1 + i * (1 + K))) = _
      rw [show L0 + 4 + 1 + i * (1 + K) = (L0 + 1 + i * (1 + K)) + 4 by omega, xad_new, show n0 + (L0 + 1 + i * (1 + K)) = n0 + L0 + 1 + i * (1 + K) by omega]
    simp only [List.map_map, Function.comp_def, e1]
  | succ j =>
    rw [List.getElem?_cons_succ] at he
    obtain ⟨i, q, hi, hq, rfl, hf⟩ := xflat (fun i => xmk2_len _ _ _ _) _ _ _ he
    obtain ⟨g1, g2⟩ := h1 i hi
    have e2 : L0 + 4 + 1 + i * (1 + K) = (L0 + 1 + i * (1 + K)) + 4 := by omega
    rw [e2] at hf
    have := xmk2_ok (D := D) (tA := tA) (old := old) (n0 := n0) (L0 := L0 + 1 + i * (1 + K)) (t := 0) (N := K) (K := M) (H1 := H1) (Or.inl rfl) (by rw [if_pos rfl, show n0 + (L0 + 1 + i * (1 + K)) = n0 + L0 + 1 + i * (1 + K) by omega]; exact g1)
      (fun q hq => by rw [show n0 + (L0 + 1 + i * (1 + K)) + 1 + q = n0 + L0 + 1 + i * (1 + K) + 1 + q by omega]; exact g2 q hq) q e hf
    rw [show n0 + (L0 + 1 + i * (1 + K)) + q = n0 + L0 + (i * (1 + K) + q + 1) by omega] at this
    exact this
theorem xclamp {n : Int32} (h0 : ¬ n < 0) (h1 : ¬ 1000 < n) : n.toNatClampNeg ≤ 1000 := by
  have h0 := Int32.not_lt.mp h0
  have h1 := Int32.not_lt.mp h1
  rw [Int32.le_iff_toInt_le] at h0 h1
  have e0 : (0 : Int32).toInt = 0 := by decide
  have e1 : (1000 : Int32).toInt = 1000 := by decide
  rw [e0] at h0
  rw [e1] at h1
  show n.toInt.toNat ≤ 1000
  omega
variable {p : Program} {l : Launch} {e : Env} {R : Room} {s : State} {m : MethodId} {args : Array Value} {below : List Frame} {meth : Method} {c : Code} {Q : State → Prop}
theorem x_mul {D : va_G} {tA : Nat → ClassId} {old : Nat → Nat} {n0 hb kb nL μ x dm sl pc : Nat} {lv : xL} {st rest : List Value} {h es : xH} {ks : Nat}
    (hx : p.tables.exec = Jvm.exec) (hb9 : c.code = xmb μ) (hown : s.vm.findClass (xown (xmo μ)) = some m.cls) (hts : ∀ w ∈ xgw, w.before args s = true) (hnw : ∀ w ∈ xnw, w.before args s = true) (hK : xK D tA s)
    (hac : ∀ t, t < 3 → (Jvm.Cond.arrayClass (xtT t)).before args s = true) (hlb : hb ≤ h.length) (hkb : kb ≤ ks) (hdg : decode (xmb μ) pc = .ok (.multianewarray x dm, 4)) (hm : xmul (xmo μ) x dm st (h.length + 4) = some (rest, es, sl))
    (hRc : (h ++ es).length - hb ≤ R.cells) (hRs : ks + sl - kb ≤ R.slots)
    (kk : xG p l e R s m args below meth c Q D tA old n0 hb kb nL (pc + 4) lv (.ref (h.length + 4) :: rest) (h ++ es) (ks + sl)) : xG p l e R s m args below meth c Q D tA old n0 hb kb nL pc lv st h ks := by
  intro H locs ls hz hP hS hl
  unfold xmul at hm
  split at hm
  · rename_i t pw hf
    have hw := hts _ (xmul_w hf)
    split at hm
    · rename_i ht
      obtain ⟨rfl, ht⟩ := ht
      split at hm
      · rename_i k n rest9
        split at hm
        · cases hm
        · rename_i hc
          cases hm
          have hn : ¬ n < 0 := fun q => hc (Or.inl q)
          have hk : ¬ k < 0 := fun q => hc (Or.inr (Or.inl q))
          have bn := xclamp hn (fun q => hc (Or.inr (Or.inr (Or.inl q))))
          have bk := xclamp hk (fun q => hc (Or.inr (Or.inr (Or.inr q))))
          rw [List.length_append, xmk2_len] at hRc
          have hty : xtT t = .array (xtT (xcomp t)) := by rcases ht with rfl | rfl <;> rfl
          have hc3 : xcomp t = 0 ∨ xcomp t = 2 := by rcases ht with rfl | rfl <;> simp [xcomp]
          have hif : (if xcomp t = 0 then 3 else 5) = t := by rcases ht with rfl | rfl <;> rfl
          have hcb : k.toNatClampNeg * componentBytes (xtT (xcomp t)) ≤ 536870912 := by
            rcases hc3 with q | q <;> rw [q]
            · show k.toNatClampNeg * 4 ≤ 536870912
              omega
            · show k.toNatClampNeg * 1 ≤ 536870912
              omega
          rw [hty] at hw
          refine x_mna2 hx hb9 hown hw (by rw [← hty]; exact hnw _ (xover_ok (by rcases ht with q | q <;> simp [q]))) (hac _ (by rcases hc3 with q | q <;> omega)) hn hk (by omega) hcb (by omega) (by rcases hc3 with q | q <;> rw [q] <;> rfl) (by rcases hc3 with q | q <;> rw [q] <;> rfl) (by omega) (by omega) hdg (fun H1 cA comp f1 f2 z1 o1 g1 g2 => ?_)
          have ecA : cA = tA t := by
            have := (hK.2 t (by rcases ht with rfl | rfl <;> omega)).1
            rw [hty] at this
            exact Option.some.inj (f1.symm.trans this)
          have ecC : comp = tA (xcomp t) := Option.some.inj (f2.symm.trans (hK.2 (xcomp t) (by rcases hc3 with q | q <;> omega)).1)
          subst ecA
          subst ecC
          have hk9 := kk H1 locs ls (by rw [z1, hz, List.length_append, xmk2_len]; omega) (xP_app hP hz o1 (by
            have := xmk2_ok (D := D) (old := old) (n0 := n0) (L0 := h.length) (t := xcomp t) (N := n.toNatClampNeg) (K := k.toNatClampNeg) (H1 := H1) hc3 (by rw [hif, ← hz]; exact g1) (fun j hj => by rw [← hz]; exact g2 j hj)
            rw [← hz] at this
            exact this)) ⟨by have := hS.1; omega, fun q h1 h2 => (o1 q (Nat.lt_of_lt_of_le h1 hS.1)).trans (hS.2.1 q h1 h2), hS.2.2⟩ hl
          rw [List.length_append, xmk2_len, show h.length + (1 + n.toNatClampNeg) - hb = h.length - hb + 1 + n.toNatClampNeg by omega, show ks + (n.toNatClampNeg + n.toNatClampNeg * k.toNatClampNeg) - kb = ks - kb + n.toNatClampNeg + n.toNatClampNeg * k.toNatClampNeg by omega] at hk9
          simp only [List.map_cons, xv] at hk9
          rw [xad_new, ← hz] at hk9
          exact hk9
      · cases hm
    · split at hm
      · rename_i ht
        obtain ⟨rfl, rfl⟩ := ht
        split at hm
        · rename_i r k n rest9
          split at hm
          · cases hm
          · rename_i hc
            cases hm
            have hn : ¬ n < 0 := fun q => hc (Or.inl q)
            have hk : ¬ k < 0 := fun q => hc (Or.inr (Or.inl q))
            have hr : ¬ r < 0 := fun q => hc (Or.inr (Or.inr (Or.inl q)))
            have bn := xclamp hn (fun q => hc (Or.inr (Or.inr (Or.inr (Or.inl q)))))
            have bk := xclamp hk (fun q => hc (Or.inr (Or.inr (Or.inr (Or.inr (Or.inl q))))))
            have br := xclamp hr (fun q => hc (Or.inr (Or.inr (Or.inr (Or.inr (Or.inr q))))))
            rw [List.length_append, xmk3_len] at hRc
            refine x_mna3 (ty := .int) hx hb9 hown hw (hnw _ (xover_ok (t := 4) (by simp))) (hnw _ (xover_ok (t := 3) (by simp))) (hac 0 (by omega)) hn hk hr (by omega) (by omega) (by show r.toNatClampNeg * 4 ≤ 536870912; omega) (by omega) rfl rfl (by omega) (by omega) hdg (fun H1 cA comp cd f1 f2 f3 z1 o1 g1 g2 => ?_)
            have ecA : cA = tA 4 := Option.some.inj (f1.symm.trans (hK.2 4 (by omega)).1)
            have ecB : comp = tA 3 := Option.some.inj (f2.symm.trans (hK.2 3 (by omega)).1)
            have ecC : cd = tA 0 := Option.some.inj (f3.symm.trans (hK.2 0 (by omega)).1)
            subst ecA
            subst ecB
            subst ecC
            have hk9 := kk H1 locs ls (by rw [z1, hz, List.length_append, xmk3_len]; omega) (xP_app hP hz o1 (by
              have := xmk3_ok (D := D) (tA := tA) (old := old) (n0 := n0) (L0 := h.length) (N := n.toNatClampNeg) (K := k.toNatClampNeg) (M := r.toNatClampNeg) (H1 := H1) (by rw [← hz]; exact g1) (fun j hj => by rw [← hz]; exact g2 j hj)
              rw [← hz] at this
              exact this)) ⟨by have := hS.1; omega, fun q h1 h2 => (o1 q (Nat.lt_of_lt_of_le h1 hS.1)).trans (hS.2.1 q h1 h2), hS.2.2⟩ hl
            rw [List.length_append, xmk3_len, show h.length + (1 + n.toNatClampNeg * (1 + k.toNatClampNeg)) - hb = h.length - hb + 1 + n.toNatClampNeg * (1 + k.toNatClampNeg) by omega, show ks + (n.toNatClampNeg + n.toNatClampNeg * (k.toNatClampNeg + k.toNatClampNeg * r.toNatClampNeg)) - kb = ks - kb + n.toNatClampNeg + n.toNatClampNeg * (k.toNatClampNeg + k.toNatClampNeg * r.toNatClampNeg) by omega] at hk9
            simp only [List.map_cons, xv] at hk9
            rw [xad_new, ← hz] at hk9
            exact hk9
        · cases hm
      · cases hm
  · cases hm
end XMC
