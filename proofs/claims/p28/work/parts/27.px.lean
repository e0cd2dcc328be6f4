section XBR
variable {sd sc : Option (List Int32)} {μ pc : Nat} {lv : xL} {st : List Value} {h : xH} {ks : Nat} {out : xO}
theorem lx_if {c : Jvm.ClassFile.Cond} {off : Int} {x : Int32} {t : Nat} (hi : (xmc μ)[pc]? = some (some (.ifCond c off))) (ht : xj pc off = some t) (k1 : xcmp c x 0 = true → Lx sd sc μ t lv st h ks out) (k2 : xcmp c x 0 = false → Lx sd sc μ (pc + 3) lv st h ks out) : Lx sd sc μ pc lv (.int x :: st) h ks out := by
  cases hb : xcmp c x 0 with
  | true => exact lx_step hi rfl (by unfold xstep; dsimp only; rw [ht]; dsimp only; rw [hb]; rfl) (k1 hb)
  | false => exact lx_step hi rfl (by unfold xstep; dsimp only; rw [ht]; dsimp only; rw [hb]; rfl) (k2 hb)
theorem lx_icmp {c : Jvm.ClassFile.Cond} {off : Int} {x y : Int32} {t : Nat} (hi : (xmc μ)[pc]? = some (some (.if_icmp c off))) (ht : xj pc off = some t) (k1 : xcmp c x y = true → Lx sd sc μ t lv st h ks out) (k2 : xcmp c x y = false → Lx sd sc μ (pc + 3) lv st h ks out) : Lx sd sc μ pc lv (.int y :: .int x :: st) h ks out := by
  cases hb : xcmp c x y with
  | true => exact lx_step hi rfl (by unfold xstep; dsimp only; rw [ht]; dsimp only; rw [hb]; rfl) (k1 hb)
  | false => exact lx_step hi rfl (by unfold xstep; dsimp only; rw [ht]; dsimp only; rw [hb]; rfl) (k2 hb)
end XBR
/-! what holds behind a run -/
section XPX
def Px (sd sc : Option (List Int32)) (μ pc : Nat) (lv : xL) (st : List Value) (h : xH) (ks : Nat) (Φ : xO → Prop) : Prop := ∃ out, Lx sd sc μ pc lv st h ks out ∧ Φ out
def Qx (sd : Option (List Int32)) (μ : Nat) (as : List Value) (h : xH) (ks : Nat) (Φ : xO → Prop) : Prop := ∃ out, Cx sd μ as h ks out ∧ Φ out
theorem Qx.of {sc : Option (List Int32)} {μ : Nat} {as : List Value} {h : xH} {ks : Nat} {Φ : xO → Prop} (hc : xcod μ = true ∨ xcow μ = true) (hl : (lg_sl as).length ≤ xml μ) (k : Px sc sc μ 0 (lv_args 0 as) [] h ks Φ) : Qx sc μ as h ks Φ :=
  k.imp fun _ q => ⟨Cx.of hc hl q.1, q.2⟩
theorem Qx.at {sc : Option (List Int32)} {μ : Nat} {as : List Value} {h : xH} {ks : Nat} {Φ : xO → Prop} {out : xO} (k : Cx sc μ as h ks out) (hp : Φ out) : Qx sc μ as h ks Φ := ⟨out, k, hp⟩
variable {sd sc : Option (List Int32)} {μ pc : Nat} {lv : xL} {st : List Value} {h : xH} {ks : Nat} {Φ : xO → Prop}
theorem px_step {i : Instr} {pc' : Nat} {lv' : xL} {st' : List Value} {h' : xH} {ks' : Nat} (hi : (xmc μ)[pc]? = some (some i)) (hp : xpl i = true) (hs : xstep (xmo μ) (xml μ) (xini μ) sc i pc lv st h ks = some (pc', lv', st', h', ks')) (k : Px sd sc μ pc' lv' st' h' ks' Φ) : Px sd sc μ pc lv st h ks Φ :=
  k.imp fun _ q => ⟨lx_step hi hp hs q.1, q.2⟩
theorem px_new {x pc' : Nat} {lv' : xL} {st' : List Value} {h' : xH} {ks' : Nat} (hi : (xmc μ)[pc]? = some (some (.new x))) (hp : xfnd (xthrT μ) pc = none) (hs : xstep (xmo μ) (xml μ) (xini μ) sc (.new x) pc lv st h ks = some (pc', lv', st', h', ks')) (k : Px sd sc μ pc' lv' st' h' ks' Φ) : Px sd sc μ pc lv st h ks Φ :=
  k.imp fun _ q => ⟨lx_new hi hp hs q.1, q.2⟩
theorem px_thr {x ci : Nat} {r : Nat × Nat × Nat × Nat × Nat × Nat} (hi : (xmc μ)[pc]? = some (some (.new x))) (hp : xfnd (xthrT μ) pc = some (ci, r)) (hm : xmh μ = []) (k : Φ (some ci, none, h ++ [(ci, [])], ks + 6)) : Px sd sc μ pc lv [] h ks Φ := ⟨_, lx_thr hi hp hm, k⟩
theorem px_ret {i : Instr} {r : Option Value} (hi : (xmc μ)[pc]? = some (some i)) (hp : xrt i = true) (hr : xexit μ i st = some r) (k : Φ (none, r, h, ks)) : Px sd sc μ pc lv st h ks Φ := ⟨_, lx_ret hi hp hr, k⟩
theorem px_math {x : Nat} {v : Int32} {rest : List Value} (hi : (xmc μ)[pc]? = some (some (.invokestatic x))) (hm : xmath (xmo μ) μ x st = some (v, rest)) (k : Px sd sc μ (pc + 3) lv (.int v :: rest) h ks Φ) : Px sd sc μ pc lv st h ks Φ := k.imp fun _ q => ⟨lx_math hi hm q.1, q.2⟩
/-- behind a call: it came back, or threw (nothing catches it here) -/
def xbk (sd sc : Option (List Int32)) (μ pc : Nat) (lv : xL) (rest : List Value) (Φ : xO → Prop) (o : xO) : Prop := match o with
  | (none, r, h', ks') => Px sd sc μ pc lv (r.toList ++ rest) h' ks' Φ
  | (some t, _, h', ks') => Φ (some t, none, h', ks')
/-- behind a call whose throw is caught here -/
def xbc (sd sc : Option (List Int32)) (μ pc pc0 : Nat) (lv : xL) (rest : List Value) (Φ : xO → Prop) (o : xO) : Prop := match o with
  | (none, r, h', ks') => Px sd sc μ pc lv (r.toList ++ rest) h' ks' Φ
  | (some t, _, h', ks') => ∃ hp pc' j, xctch (xmo μ) μ pc0 t (xmc μ) = some (hp, pc', j) ∧ j < xml μ ∧ Px sd sc μ pc' (xdel j lv) [] h' ks' Φ
theorem px_st {x μ' : Nat} {as rest : List Value} (hi : (xmc μ)[pc]? = some (some (.invokestatic x))) (hm : xmath (xmo μ) μ x st = none) (hv : xinv (xmo μ) μ x st = some (2, μ', as, rest)) (hd : xcod μ' = true) (hh : xmh μ = []) (k : Qx sd μ' as h ks (xbk sd sc μ (pc + 3) lv rest Φ)) : Px sd sc μ pc lv st h ks Φ := by
  obtain ⟨⟨t, r, h', ks'⟩, k1, k2⟩ := k
  cases t with
  | none => exact k2.imp fun _ q => ⟨lx_st hi hm hv k1 q.1, q.2⟩
  | some t => exact ⟨_, lx_sthr hi hm hv hd k1 hh, k2⟩
/-- a call that doesn't throw -/
def xbn (sd sc : Option (List Int32)) (μ pc : Nat) (lv : xL) (rest : List Value) (Φ : xO → Prop) (o : xO) : Prop := match o with
  | (none, r, h', ks') => Px sd sc μ pc lv (r.toList ++ rest) h' ks' Φ
  | (some _, _, _, _) => False
theorem px_sn {x μ' : Nat} {as rest : List Value} (hi : (xmc μ)[pc]? = some (some (.invokestatic x))) (hm : xmath (xmo μ) μ x st = none) (hv : xinv (xmo μ) μ x st = some (3, μ', as, rest)) (hd : xcod μ' = true) (k : Qx sd μ' as h ks (xbn sd sc μ (pc + 3) lv rest Φ)) : Px sd sc μ pc lv st h ks Φ := by
  obtain ⟨⟨t, r, h', ks'⟩, k1, k2⟩ := k
  cases t with
  | none => exact k2.imp fun _ q => ⟨lx_sn hi hm hv hd k1 q.1, q.2⟩
  | some t => exact k2.elim
/-- a wrapper, with handlers of its own: it throws nothing -/
theorem px_sw {x μ' : Nat} {as rest : List Value} (hi : (xmc μ)[pc]? = some (some (.invokestatic x))) (hm : xmath (xmo μ) μ x st = none) (hv : xinv (xmo μ) μ x st = some (2, μ', as, rest)) (k : Qx sd μ' as h ks (xbn sd sc μ (pc + 3) lv rest Φ)) : Px sd sc μ pc lv st h ks Φ := by
  obtain ⟨⟨t, r, h', ks'⟩, k1, k2⟩ := k
  cases t with
  | none => exact k2.imp fun _ q => ⟨lx_st hi hm hv k1 q.1, q.2⟩
  | some t => exact k2.elim
theorem px_vi {x μ' : Nat} {as rest : List Value} (hi : (xmc μ)[pc]? = some (some (.invokevirtual x))) (hv : xinv (xmo μ) μ x st = some (1, μ', as, rest)) (hr : xrecv μ' as h = true) (hd : xcod μ' = true) (hh : xmh μ = []) (k : Qx sd μ' as h ks (xbk sd sc μ (pc + 3) lv rest Φ)) : Px sd sc μ pc lv st h ks Φ := by
  obtain ⟨⟨t, r, h', ks'⟩, k1, k2⟩ := k
  cases t with
  | none => exact k2.imp fun _ q => ⟨lx_vi hi hv hr hd k1 q.1, q.2⟩
  | some t => exact ⟨_, lx_vthr hi hv hr hd k1 hh, k2⟩
theorem px_vc {x μ' : Nat} {as rest : List Value} (hi : (xmc μ)[pc]? = some (some (.invokevirtual x))) (hv : xinv (xmo μ) μ x st = some (1, μ', as, rest)) (hr : xrecv μ' as h = true) (hd : xcod μ' = true) (hh : ¬ xmh μ = []) (k : Qx sd μ' as h ks (xbc sd sc μ (pc + 3) pc lv rest Φ)) : Px sd sc μ pc lv st h ks Φ := by
  obtain ⟨⟨t, r, h', ks'⟩, k1, k2⟩ := k
  cases t with
  | none => exact k2.imp fun _ q => ⟨lx_vi hi hv hr hd k1 q.1, q.2⟩
  | some t =>
    obtain ⟨hp, pc', j, c1, c2, k2⟩ := k2
    exact k2.imp fun _ q => ⟨lx_vct hi hv hr hd k1 hh c1 c2 q.1, q.2⟩
theorem px_obj {x b : Nat} {r : Nat × Nat × Nat × Nat × Nat} {rest : List Value} (hi : (xmc μ)[pc]? = some (some (.invokespecial x))) (hf : xfnd (xcalT (xmo μ)) x = some (6, r)) (hc : (rest.map fun v => v.category).sum + 12 ≤ xmlo μ ∧ 1 ≤ xmf μ) (k : Px sd sc μ (pc + 3) lv rest h ks Φ) : Px sd sc μ pc lv (.ref b :: rest) h ks Φ := k.imp fun _ q => ⟨lx_obj hi hf hc q.1, q.2⟩
theorem px_sp {x k μ' : Nat} {as rest : List Value} {r : Option Value} {h' : xH} {ks' : Nat} (hi : (xmc μ)[pc]? = some (some (.invokespecial x))) (hf : ∀ r, xfnd (xcalT (xmo μ)) x ≠ some (6, r)) (hv : xinv (xmo μ) μ x st = some (k, μ', as, rest)) (hk : (k = 0 ∨ k = 4) ∧ xmr μ' = none ∧ xini μ' = true ∧ xcod μ' = true) (hc : Cx sd μ' as h ks (none, r, h', ks')) (kk : Px sd sc μ (pc + 3) lv (r.toList ++ rest) h' ks' Φ) : Px sd sc μ pc lv st h ks Φ := kk.imp fun _ q => ⟨lx_sp hi hf hv hk hc q.1, q.2⟩
theorem px_if {c : Jvm.ClassFile.Cond} {off : Int} {x : Int32} {t : Nat} (hi : (xmc μ)[pc]? = some (some (.ifCond c off))) (ht : xj pc off = some t) (k1 : xcmp c x 0 = true → Px sd sc μ t lv st h ks Φ) (k2 : xcmp c x 0 = false → Px sd sc μ (pc + 3) lv st h ks Φ) : Px sd sc μ pc lv (.int x :: st) h ks Φ := by
  cases hb : xcmp c x 0 with
  | true => exact px_step hi rfl (by unfold xstep; dsimp only; rw [ht]; dsimp only; rw [hb]; rfl) (k1 hb)
  | false => exact px_step hi rfl (by unfold xstep; dsimp only; rw [ht]; dsimp only; rw [hb]; rfl) (k2 hb)
theorem px_icmp {c : Jvm.ClassFile.Cond} {off : Int} {x y : Int32} {t : Nat} (hi : (xmc μ)[pc]? = some (some (.if_icmp c off))) (ht : xj pc off = some t) (k1 : xcmp c x y = true → Px sd sc μ t lv st h ks Φ) (k2 : xcmp c x y = false → Px sd sc μ (pc + 3) lv st h ks Φ) : Px sd sc μ pc lv (.int y :: .int x :: st) h ks Φ := by
  cases hb : xcmp c x y with
  | true => exact px_step hi rfl (by unfold xstep; dsimp only; rw [ht]; dsimp only; rw [hb]; rfl) (k1 hb)
  | false => exact px_step hi rfl (by unfold xstep; dsimp only; rw [ht]; dsimp only; rw [hb]; rfl) (k2 hb)
theorem px_cpy {x : Nat} {rest : List Value} {h' : xH} (hi : (xmc μ)[pc]? = some (some (.invokestatic x))) (hm : xmath (xmo μ) μ x st = none) (hv : xinv (xmo μ) μ x st = none) (hc : xcpy (xmo μ) μ x st h = some (rest, h')) (k : Px sd sc μ (pc + 3) lv rest h' ks Φ) : Px sd sc μ pc lv st h ks Φ := k.imp fun _ q => ⟨lx_cpy hi hm hv hc q.1, q.2⟩
theorem px_anw {x : Nat} {rest : List Value} (hi : (xmc μ)[pc]? = some (some (.anewarray x))) (hm : xanw (xmo μ) x st = some rest) (k : Px sd sc μ (pc + 3) lv (.ref (h.length + 4) :: rest) (h ++ [(103, [])]) ks Φ) : Px sd sc μ pc lv st h ks Φ := k.imp fun _ q => ⟨lx_anw hi hm q.1, q.2⟩
theorem px_mul {x dm sl : Nat} {rest : List Value} {es : xH} (hi : (xmc μ)[pc]? = some (some (.multianewarray x dm))) (hf : xmul (xmo μ) x dm st (h.length + 4) = some (rest, es, sl)) (k : Px sd sc μ (pc + 4) lv (.ref (h.length + 4) :: rest) (h ++ es) (ks + sl) Φ) : Px sd sc μ pc lv st h ks Φ := k.imp fun _ q => ⟨lx_mul hi hf q.1, q.2⟩
end XPX
