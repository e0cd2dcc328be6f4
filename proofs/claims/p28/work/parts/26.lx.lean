/-! more fuel, the same answer -/
section XFU
set_option maxHeartbeats 4000000 in
theorem xloop_fuel {call call' : Nat → List Value → xH → Nat → Option xO} (hcall : ∀ μ as h ks out, call μ as h ks = some out → call' μ as h ks = some out) {sc : Option (List Int32)} {μ o nL : Nat} {ini : Bool} {cod : List (Option Instr)} :
    ∀ (n n' pc : Nat) (lv : xL) (st : List Value) (h : xH) (ks : Nat) (out : xO), n ≤ n' → xloop call sc μ o nL ini cod n pc lv st h ks = some out → xloop call' sc μ o nL ini cod n' pc lv st h ks = some out := by
  intro n
  induction n with
  | zero => intro n' pc lv st h ks out hn he; cases he
  | succ n ih =>
    intro n' pc lv st h ks out hn he
    obtain ⟨n', rfl⟩ : ∃ k, n' = k + 1 := ⟨n' - 1, by omega⟩
    have ih' := fun pc lv st h ks out => ih n' pc lv st h ks out (by omega)
    clear ih
    unfold xloop at he ⊢
    clear hn
    repeat' split at he
    all_goals first
      | (cases he; done)
      | (have ih9 := ih' _ _ _ _ _ _ he; clear he ih' hcall; simp only [*, ↓reduceIte, and_self, true_or, or_true]; done)
      | (have hc := hcall _ _ _ _ _ (by assumption); have ih9 := ih' _ _ _ _ _ _ he; clear he ih' hcall; simp only [*, ↓reduceIte, and_self]; done)
      | (have hc := hcall _ _ _ _ _ (by assumption); clear ih' hcall; simp only [*, ↓reduceIte, and_self]; done)
      | (clear ih' hcall; simp only [*, ↓reduceIte, and_self]; done)
      | (rename_i hk3 _ _ _ _ _; obtain ⟨hk3, hcd⟩ := hk3; subst hk3; have hc := hcall _ _ _ _ _ (by assumption); have ih9 := ih' _ _ _ _ _ _ he; clear he ih' hcall; simp only [*, ↓reduceIte, and_self, Nat.reduceEqDiff]; done)
theorem xcall_fuel {F F' : Nat} {sc : Option (List Int32)} (hF : F ≤ F') : ∀ (d d' μ : Nat) (as : List Value) (h : xH) (ks : Nat) (out : xO), d ≤ d' → xcall F sc d μ as h ks = some out → xcall F' sc d' μ as h ks = some out := by
  intro d
  induction d with
  | zero => intro d' μ as h ks out hd he; cases he
  | succ d ih =>
    intro d' μ as h ks out hd he
    obtain ⟨d', rfl⟩ : ∃ k, d' = k + 1 := ⟨d' - 1, by omega⟩
    unfold xcall at he ⊢
    split at he
    · rename_i hc
      rw [if_pos hc]
      exact xloop_fuel (fun μ as h ks out q => ih d' μ as h ks out (by omega) q) F F' _ _ _ _ _ _ hF he
    · cases he
/-- a method's run, whatever the fuel -/
def Cx (sc : Option (List Int32)) (μ : Nat) (as : List Value) (h : xH) (ks : Nat) (out : xO) : Prop := ∃ F d, xcall F sc d μ as h ks = some out
/-- a run from a point of a method -/
def Lx (sd sc : Option (List Int32)) (μ pc : Nat) (lv : xL) (st : List Value) (h : xH) (ks : Nat) (out : xO) : Prop := ∃ F d n, xloop (xcall F sd d) sc μ (xmo μ) (xml μ) (xini μ) (xmc μ) n pc lv st h ks = some out
theorem Cx.of {sc : Option (List Int32)} {μ : Nat} {as : List Value} {h : xH} {ks : Nat} {out : xO} (hc : xcod μ = true ∨ xcow μ = true) (hl : (lg_sl as).length ≤ xml μ) (k : Lx sc sc μ 0 (lv_args 0 as) [] h ks out) : Cx sc μ as h ks out := by
  obtain ⟨F, d, n, e⟩ := k
  refine ⟨max F n, d + 1, ?_⟩
  unfold xcall
  rw [if_pos ⟨hc, hl⟩]
  exact xloop_fuel (fun μ as h ks out q => xcall_fuel (Nat.le_max_left F n) d d μ as h ks out (Nat.le_refl _) q) n _ _ _ _ _ _ _ (Nat.le_max_right F n) e
theorem Cx.fun {sc : Option (List Int32)} {μ : Nat} {as : List Value} {h : xH} {ks : Nat} {o1 o2 : xO} (h1 : Cx sc μ as h ks o1) (h2 : Cx sc μ as h ks o2) : o1 = o2 := by
  obtain ⟨F1, d1, e1⟩ := h1
  obtain ⟨F2, d2, e2⟩ := h2
  have a1 := xcall_fuel (Nat.le_max_left F1 F2) d1 (max d1 d2) μ as h ks o1 (Nat.le_max_left _ _) e1
  have a2 := xcall_fuel (Nat.le_max_right F1 F2) d2 (max d1 d2) μ as h ks o2 (Nat.le_max_right _ _) e2
  exact Option.some.inj (a1.symm.trans a2)
section
variable {sd sc : Option (List Int32)} {μ pc : Nat} {lv : xL} {st : List Value} {h : xH} {ks : Nat} {out : xO}
def xpl : Instr → Bool
  | .ireturn => false | .lreturn => false | .dreturn => false | .areturn => false | .return_ => false
  | .invokestatic _ => false | .invokevirtual _ => false | .invokespecial _ => false | .invokeinterface _ _ => false
  | .getstatic _ => false | .multianewarray _ _ => false | .new _ => false | .anewarray _ => false
  | _ => true
set_option maxHeartbeats 4000000 in
theorem lx_step {i : Instr} {pc' : Nat} {lv' : xL} {st' : List Value} {h' : xH} {ks' : Nat} (hi : (xmc μ)[pc]? = some (some i)) (hp : xpl i = true) (hs : xstep (xmo μ) (xml μ) (xini μ) sc i pc lv st h ks = some (pc', lv', st', h', ks')) (k : Lx sd sc μ pc' lv' st' h' ks' out) : Lx sd sc μ pc lv st h ks out := by
  obtain ⟨F, d, n, e⟩ := k
  refine ⟨F, d, n + 1, ?_⟩
  unfold xloop
  rw [hi]
  dsimp only
  cases i <;> first | (cases hp; done) | (dsimp only; rw [hs]; exact e)
theorem lx_new {x pc' : Nat} {lv' : xL} {st' : List Value} {h' : xH} {ks' : Nat} (hi : (xmc μ)[pc]? = some (some (.new x))) (hp : xfnd (xthrT μ) pc = none) (hs : xstep (xmo μ) (xml μ) (xini μ) sc (.new x) pc lv st h ks = some (pc', lv', st', h', ks')) (k : Lx sd sc μ pc' lv' st' h' ks' out) : Lx sd sc μ pc lv st h ks out := by
  obtain ⟨F, d, n, e⟩ := k
  refine ⟨F, d, n + 1, ?_⟩
  unfold xloop
  rw [hi]
  dsimp only
  rw [hp]
  dsimp only
  rw [hs]
  exact e
theorem lx_thr {x ci : Nat} {r : Nat × Nat × Nat × Nat × Nat × Nat} (hi : (xmc μ)[pc]? = some (some (.new x))) (hp : xfnd (xthrT μ) pc = some (ci, r)) (hm : xmh μ = []) : Lx sd sc μ pc lv [] h ks (some ci, none, h ++ [(ci, [])], ks + 6) := by
  refine ⟨0, 0, 1, ?_⟩
  unfold xloop
  rw [hi]
  dsimp only
  rw [hp]
  dsimp only
  rw [if_pos hm]
def xrt : Instr → Bool
  | .ireturn => true | .lreturn => true | .dreturn => true | .areturn => true | .return_ => true
  | _ => false
theorem lx_ret {i : Instr} {r : Option Value} (hi : (xmc μ)[pc]? = some (some i)) (hp : xrt i = true) (hr : xexit μ i st = some r) : Lx sd sc μ pc lv st h ks (none, r, h, ks) := by
  refine ⟨0, 0, 1, ?_⟩
  unfold xloop
  rw [hi]
  dsimp only
  cases i <;> first | (cases hp; done) | (dsimp only; rw [hr])
theorem lx_up {μ' : Nat} {as : List Value} {h1 : xH} {ks1 : Nat} {o1 : xO} {pc' : Nat} {lv' : xL} {st' : List Value} {h' : xH} {ks' : Nat} (hc : Cx sd μ' as h1 ks1 o1) (k : Lx sd sc μ pc' lv' st' h' ks' out) :
    ∃ F d n, xcall F sd d μ' as h1 ks1 = some o1 ∧ xloop (xcall F sd d) sc μ (xmo μ) (xml μ) (xini μ) (xmc μ) n pc' lv' st' h' ks' = some out := by
  obtain ⟨F1, d1, e1⟩ := hc
  obtain ⟨F, d, n, e⟩ := k
  exact ⟨max F1 F, max d1 d, n, xcall_fuel (Nat.le_max_left _ _) _ _ _ _ _ _ _ (Nat.le_max_left _ _) e1, xloop_fuel (fun μ as h ks out q => xcall_fuel (Nat.le_max_right _ _) _ _ _ _ _ _ _ (Nat.le_max_right _ _) q) n n _ _ _ _ _ _ (Nat.le_refl _) e⟩
theorem lx_math {x : Nat} {v : Int32} {rest : List Value} (hi : (xmc μ)[pc]? = some (some (.invokestatic x))) (hm : xmath (xmo μ) μ x st = some (v, rest)) (k : Lx sd sc μ (pc + 3) lv (.int v :: rest) h ks out) : Lx sd sc μ pc lv st h ks out := by
  obtain ⟨F, d, n, e⟩ := k
  refine ⟨F, d, n + 1, ?_⟩
  unfold xloop
  rw [hi]
  dsimp only
  rw [hm]
  exact e
theorem lx_st {x μ' : Nat} {as rest : List Value} {r : Option Value} {h' : xH} {ks' : Nat} (hi : (xmc μ)[pc]? = some (some (.invokestatic x))) (hm : xmath (xmo μ) μ x st = none) (hv : xinv (xmo μ) μ x st = some (2, μ', as, rest)) (hc : Cx sd μ' as h ks (none, r, h', ks')) (k : Lx sd sc μ (pc + 3) lv (r.toList ++ rest) h' ks' out) : Lx sd sc μ pc lv st h ks out := by
  obtain ⟨F, d, n, e1, e⟩ := lx_up hc k
  refine ⟨F, d, n + 1, ?_⟩
  unfold xloop
  rw [hi]
  dsimp only
  rw [hm, hv]
  dsimp only
  rw [if_pos rfl, e1]
  exact e
theorem lx_sn {x μ' : Nat} {as rest : List Value} {r : Option Value} {h' : xH} {ks' : Nat} (hi : (xmc μ)[pc]? = some (some (.invokestatic x))) (hm : xmath (xmo μ) μ x st = none) (hv : xinv (xmo μ) μ x st = some (3, μ', as, rest)) (hd : xcod μ' = true) (hc : Cx sd μ' as h ks (none, r, h', ks')) (k : Lx sd sc μ (pc + 3) lv (r.toList ++ rest) h' ks' out) : Lx sd sc μ pc lv st h ks out := by
  obtain ⟨F, d, n, e1, e⟩ := lx_up hc k
  refine ⟨F, d, n + 1, ?_⟩
  unfold xloop
  rw [hi]
  dsimp only
  rw [hm, hv]
  dsimp only
  rw [if_neg (by decide), if_pos ⟨rfl, hd⟩, e1]
  exact e
theorem lx_sthr {x μ' t : Nat} {as rest : List Value} {r : Option Value} {h' : xH} {ks' : Nat} (hi : (xmc μ)[pc]? = some (some (.invokestatic x))) (hm : xmath (xmo μ) μ x st = none) (hv : xinv (xmo μ) μ x st = some (2, μ', as, rest)) (hd : xcod μ' = true) (hc : Cx sd μ' as h ks (some t, r, h', ks')) (hh : xmh μ = []) : Lx sd sc μ pc lv st h ks (some t, none, h', ks') := by
  obtain ⟨F, d, e1⟩ := hc
  refine ⟨F, d, 1, ?_⟩
  unfold xloop
  rw [hi]
  dsimp only
  rw [hm, hv]
  dsimp only
  rw [if_pos rfl, e1]
  dsimp only
  rw [if_pos hd, if_pos hh]
theorem lx_vi {x μ' : Nat} {as rest : List Value} {r : Option Value} {h' : xH} {ks' : Nat} (hi : (xmc μ)[pc]? = some (some (.invokevirtual x))) (hv : xinv (xmo μ) μ x st = some (1, μ', as, rest)) (hr : xrecv μ' as h = true) (hd : xcod μ' = true) (hc : Cx sd μ' as h ks (none, r, h', ks')) (k : Lx sd sc μ (pc + 3) lv (r.toList ++ rest) h' ks' out) : Lx sd sc μ pc lv st h ks out := by
  obtain ⟨F, d, n, e1, e⟩ := lx_up hc k
  refine ⟨F, d, n + 1, ?_⟩
  unfold xloop
  rw [hi]
  dsimp only
  rw [hv]
  dsimp only
  rw [if_pos ⟨rfl, hr, hd⟩, e1]
  exact e
theorem lx_vthr {x μ' t : Nat} {as rest : List Value} {r : Option Value} {h' : xH} {ks' : Nat} (hi : (xmc μ)[pc]? = some (some (.invokevirtual x))) (hv : xinv (xmo μ) μ x st = some (1, μ', as, rest)) (hr : xrecv μ' as h = true) (hd : xcod μ' = true) (hc : Cx sd μ' as h ks (some t, r, h', ks')) (hh : xmh μ = []) : Lx sd sc μ pc lv st h ks (some t, none, h', ks') := by
  obtain ⟨F, d, e1⟩ := hc
  refine ⟨F, d, 1, ?_⟩
  unfold xloop
  rw [hi]
  dsimp only
  rw [hv]
  dsimp only
  rw [if_pos ⟨rfl, hr, hd⟩, e1]
  dsimp only
  rw [if_pos hh]
theorem lx_vct {x μ' t hp pc' j : Nat} {as rest : List Value} {r : Option Value} {h' : xH} {ks' : Nat} (hi : (xmc μ)[pc]? = some (some (.invokevirtual x))) (hv : xinv (xmo μ) μ x st = some (1, μ', as, rest)) (hr : xrecv μ' as h = true) (hd : xcod μ' = true) (hc : Cx sd μ' as h ks (some t, r, h', ks')) (hh : ¬ xmh μ = []) (hct : xctch (xmo μ) μ pc t (xmc μ) = some (hp, pc', j)) (hj : j < xml μ) (k : Lx sd sc μ pc' (xdel j lv) [] h' ks' out) : Lx sd sc μ pc lv st h ks out := by
  obtain ⟨F, d, n, e1, e⟩ := lx_up hc k
  refine ⟨F, d, n + 1, ?_⟩
  unfold xloop
  rw [hi]
  dsimp only
  rw [hv]
  dsimp only
  rw [if_pos ⟨rfl, hr, hd⟩, e1]
  dsimp only
  rw [if_neg hh, hct]
  dsimp only
  rw [if_pos hj]
  exact e
theorem lx_obj {x b : Nat} {r : Nat × Nat × Nat × Nat × Nat} {rest : List Value} (hi : (xmc μ)[pc]? = some (some (.invokespecial x))) (hf : xfnd (xcalT (xmo μ)) x = some (6, r)) (hc : (rest.map fun v => v.category).sum + 12 ≤ xmlo μ ∧ 1 ≤ xmf μ) (k : Lx sd sc μ (pc + 3) lv rest h ks out) : Lx sd sc μ pc lv (.ref b :: rest) h ks out := by
  obtain ⟨F, d, n, e⟩ := k
  refine ⟨F, d, n + 1, ?_⟩
  unfold xloop
  rw [hi]
  dsimp only
  rw [hf]
  show (if _ then _ else _) = _
  rw [if_pos hc]
  exact e
theorem lx_sp {x k μ' : Nat} {as rest : List Value} {r : Option Value} {h' : xH} {ks' : Nat} (hi : (xmc μ)[pc]? = some (some (.invokespecial x))) (hf : ∀ r, xfnd (xcalT (xmo μ)) x ≠ some (6, r)) (hv : xinv (xmo μ) μ x st = some (k, μ', as, rest)) (hk : (k = 0 ∨ k = 4) ∧ xmr μ' = none ∧ xini μ' = true ∧ xcod μ' = true) (hc : Cx sd μ' as h ks (none, r, h', ks')) (kk : Lx sd sc μ (pc + 3) lv (r.toList ++ rest) h' ks' out) : Lx sd sc μ pc lv st h ks out := by
  obtain ⟨F, d, n, e1, e⟩ := lx_up hc kk
  refine ⟨F, d, n + 1, ?_⟩
  unfold xloop
  rw [hi]
  dsimp only
  split
  · rename_i r9 h9
    exact absurd h9 (hf r9)
  · rw [hv]
    show (if _ then _ else _) = _
    rw [if_pos hk, e1]
    exact e
theorem lx_gets {x r : Nat} (hi : (xmc μ)[pc]? = some (some (.getstatic x))) (hf : xfnd (xgstT (xmo μ)) x = some r) (k : Lx sd sc μ (pc + 3) lv (.ref 1 :: st) h ks out) : Lx sd sc μ pc lv st h ks out := by
  obtain ⟨F, d, n, e⟩ := k
  refine ⟨F, d, n + 1, ?_⟩
  unfold xloop
  rw [hi]
  dsimp only
  rw [hf]
  exact e
theorem lx_mul {x dm sl : Nat} {rest : List Value} {es : xH} (hi : (xmc μ)[pc]? = some (some (.multianewarray x dm))) (hf : xmul (xmo μ) x dm st (h.length + 4) = some (rest, es, sl)) (k : Lx sd sc μ (pc + 4) lv (.ref (h.length + 4) :: rest) (h ++ es) (ks + sl) out) : Lx sd sc μ pc lv st h ks out := by
  obtain ⟨F, d, n, e⟩ := k
  refine ⟨F, d, n + 1, ?_⟩
  unfold xloop
  rw [hi]
  dsimp only
  rw [hf]
  exact e
theorem lx_cpy {x : Nat} {rest : List Value} {h' : xH} (hi : (xmc μ)[pc]? = some (some (.invokestatic x))) (hm : xmath (xmo μ) μ x st = none) (hv : xinv (xmo μ) μ x st = none) (hc : xcpy (xmo μ) μ x st h = some (rest, h')) (k : Lx sd sc μ (pc + 3) lv rest h' ks out) : Lx sd sc μ pc lv st h ks out := by
  obtain ⟨F, d, n, e⟩ := k
  refine ⟨F, d, n + 1, ?_⟩
  unfold xloop
  rw [hi]
  dsimp only
  rw [hm, hv, hc]
  exact e
theorem lx_anw {x : Nat} {rest : List Value} (hi : (xmc μ)[pc]? = some (some (.anewarray x))) (hm : xanw (xmo μ) x st = some rest) (k : Lx sd sc μ (pc + 3) lv (.ref (h.length + 4) :: rest) (h ++ [(103, [])]) ks out) : Lx sd sc μ pc lv st h ks out := by
  obtain ⟨F, d, n, e⟩ := k
  refine ⟨F, d, n + 1, ?_⟩
  unfold xloop
  rw [hi]
  dsimp only
  rw [hm]
  exact e
end
end XFU
