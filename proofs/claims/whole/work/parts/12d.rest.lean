section XLC
theorem xlg_m (ad : Nat → Nat) : ∀ as : List Value, (lg_sl (as.map (xv ad))).length = (lg_sl as).length
  | [] => rfl
  | v :: r => by
    unfold lg_sl
    rw [List.map_cons, List.flatMap_cons, List.flatMap_cons, List.length_append, List.length_append, xv_cat]
    have := xlg_m ad r
    unfold lg_sl at this
    rw [this]
    split <;> rfl
theorem xlv_m (ad : Nat → Nat) : ∀ (as : List Value) (k : Nat), lv_args k (as.map (xv ad)) = xm ad (lv_args k as)
  | [], _ => rfl
  | v :: r, k => by
    unfold lv_args
    rw [List.map_cons]
    dsimp only
    rw [xv_cat, xlv_m ad r]
    rfl
variable {p : Program} {l : Launch} {e : Env} {R : Room} {s : State} {m : MethodId} {args : Array Value} {below : List Frame} {meth : Method} {c : Code} {Q : State → Prop}
theorem x_mul {D : va_G} {tA : Nat → ClassId} {old : Nat → Nat} {n0 hb kb nL μ x dm sl pc : Nat} {lv : xL} {st rest : List Value} {h es : xH} {ks : Nat}
    (hx : p.tables.exec = Jvm.exec) (hb9 : c.code = xmb μ) (hown : s.vm.findClass (xown (xmo μ)) = some m.cls) (hts : ∀ w ∈ xgw, w.before args s = true) (hnw : ∀ w ∈ xnw, w.before args s = true) (hK : xK D tA s)
    (hac : ∀ t, t < 3 → (Jvm.Cond.arrayClass (xtT t)).before args s = true) (hlb : hb ≤ h.length) (hkb : kb ≤ ks) (hdg : decode (xmb μ) pc = .ok (.multianewarray x dm, 4)) (hm : xmul (xmo μ) x dm st (h.length + 4) = some (rest, es, sl))
    (hRc : (h ++ es).length - hb ≤ R.cells) (hRs : ks + sl - kb ≤ R.slots)
    (kk : xG p l e R s m args below meth c Q D tA old n0 hb kb nL (pc + 4) lv (.ref (h.length + 4) :: rest) (h ++ es) (ks + sl)) : xG p l e R s m args below meth c Q D tA old n0 hb kb nL pc lv st h ks := sorry
theorem x_thr {D : va_G} {tA : Nat → ClassId} {old : Nat → Nat} {n0 hb kb μ pc ci : Nat} {lv : xL} {st : List Value} {h : xH} {ks : Nat} {r : Nat × Nat × Nat × Nat × Nat × Nat}
    (hx : p.tables.exec = Jvm.exec) (hb9 : c.code = xmb μ) (hml : c.maxLocals = xml μ) (hown : s.vm.findClass (xown (xmo μ)) = some m.cls) (hts : ∀ w ∈ xgw, w.before args s = true) (hnw : ∀ w ∈ xnw, w.before args s = true) (hZ : xZ n0 s) (hnoh : ∀ x ∈ c.exceptionTable.toList, False) (hlocks : meth.locks = false) (hst : l.stackTraces = false)
    (hRf : R.frames = xmf μ) (hRl : R.locals = xmlo μ) (hlb : hb ≤ h.length) (hkb : kb ≤ ks) (ht : xfnd (xthrT μ) pc = some (ci, r)) (hRc : R.cells = (h ++ [(ci, [])]).length - hb) (hRs : R.slots = ks + 6 - kb) :
    xG p l e R s m args below meth c (vx_MQ below (xQc D tA old n0 (some ci, none, h ++ [(ci, [])], ks + 6)) (xXc D tA old n0 (some ci, none, h ++ [(ci, [])], ks + 6)) args s ((h ++ [(ci, [])]).length - hb) (ks + 6 - kb) (fun q => n0 ≤ q)) D tA old n0 hb kb (xml μ) pc lv st h ks := sorry
end XLC
