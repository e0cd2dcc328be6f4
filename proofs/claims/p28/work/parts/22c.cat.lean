/-! a throw that is caught in the method -/
section XCA
def xcatC (μ : Nat) (q : Nat × Nat × Nat × Nat) : Bool := decide (q.2.2.2 ≠ 0) && (match xfnd (xnewT (xmo μ)) q.2.2.2 with
  | some (ci, w1, _) => (match xcl[ci]? with
    | some (C, _, _) => xig (.classLink (xown (xmo μ)) q.2.2.2 C) w1 && xnwB (.castable C C) && decide (Jvm.Cond.castable C C ∈ lw_tbl)
    | none => false)
  | none => true)
set_option maxRecDepth 100000 in
theorem xcat_all : (List.range xNM).all (fun μ => (xmh μ).all (xcatC μ)) = true := by decide +kernel
set_option maxRecDepth 100000 in
theorem xmh_out {μ : Nat} (h : ¬ μ < xNM) : xmh μ = [] := by
  unfold xNM at h
  unfold xmh
  split <;> first | omega | rfl
theorem xcat_ok {μ : Nat} {q : Nat × Nat × Nat × Nat} (hm : q ∈ xmh μ) : xcatC μ q = true := by
  by_cases hμ : μ < xNM
  · exact List.all_eq_true.mp (List.all_eq_true.mp xcat_all μ (List.mem_range.mpr hμ)) _ hm
  · rw [xmh_out hμ] at hm
    cases hm
theorem xhnd_ok {o pc ci hp : Nat} : ∀ {rows : List (Nat × Nat × Nat × Nat)}, xhnd o pc ci rows = some hp → ∃ pre x suf r', rows = pre ++ x :: suf ∧ x.2.2.1 = hp ∧ (x.1 ≤ pc ∧ pc < x.2.1) ∧ xfnd (xnewT o) x.2.2.2 = some (ci, r') ∧
    ∀ z ∈ pre, ¬ (z.1 ≤ pc ∧ pc < z.2.1) ∨ ∃ ci' r'', xfnd (xnewT o) z.2.2.2 = some (ci', r'') ∧ xnc ci ci' = true := by
  intro rows
  induction rows with
  | nil => intro h; cases h
  | cons q rows ih =>
    intro h
    obtain ⟨qs, qe, qh, qc⟩ := q
    unfold xhnd at h
    split at h
    · rename_i hcov
      split at h
      · rename_i ci' r' hf
        split at h
        · rename_i he
          subst he
          exact ⟨[], _, rows, r', rfl, Option.some.inj h, hcov, hf, fun z hz => by cases hz⟩
        · split at h
          · rename_i hnc
            obtain ⟨pre, x, suf, r9, e1, e2, e3, e4, e5⟩ := ih h
            exact ⟨(qs, qe, qh, qc) :: pre, x, suf, r9, by rw [e1]; rfl, e2, e3, e4, fun z hz => (List.mem_cons.mp hz).elim (fun e => by subst e; exact Or.inr ⟨_, _, hf, hnc⟩) (e5 z)⟩
          · cases h
      · cases h
    · rename_i hcov
      obtain ⟨pre, x, suf, r9, e1, e2, e3, e4, e5⟩ := ih h
      exact ⟨(qs, qe, qh, qc) :: pre, x, suf, r9, by rw [e1]; rfl, e2, e3, e4, fun z hz => (List.mem_cons.mp hz).elim (fun e => by subst e; exact Or.inl hcov) (e5 z)⟩
theorem xnc_ok {ci ci' : Nat} {C C' : String} {T T' : u_T} {N N' : Nat} (h : xnc ci ci' = true) (hc : xcl[ci]? = some (C, T, N)) (hc' : xcl[ci']? = some (C', T', N')) : (C, C') ∈ xncT := by
  unfold xnc at h
  rw [hc, hc'] at h
  dsimp only at h
  obtain ⟨z, h1, h2⟩ := List.any_eq_true.mp h
  simp only [Bool.and_eq_true, decide_eq_true_eq] at h2
  obtain ⟨rfl, rfl⟩ := h2
  exact h1
theorem xdel_has {ls : Array Slot} {nL j : Nat} {q : Nat} {lv : xL} {ad : Nat → Nat} (h : lv_has ls nL ((j, Value.ref q) :: (xm ad lv).filter (fun q => !(q.1 == j) && !(q.1 + 1 == j && q.2.category == 2)))) : lv_has ls nL (xm ad (xdel j lv)) := by
  have e : (xm ad lv).filter (fun q => !(q.1 == j) && !(q.1 + 1 == j && q.2.category == 2)) = xm ad (xdel j lv) := by
    have := xs1_m j (.int 0) lv ad
    exact (List.cons.inj this).2
  rw [e] at h
  exact ⟨h.1, h.2.1, fun z hz => h.2.2 z (List.mem_cons_of_mem _ hz)⟩
variable {p : Program} {l : Launch} {e : Env} {R : Room} {s : State} {m : MethodId} {args : Array Value} {below : List Frame} {meth : Method} {c : Code} {H : Heap} {locs : List Loc} {cells slots : Nat} {Q : State → Prop}
theorem x_ccat {D : va_G} {tA : Nat → ClassId} {old : Nat → Nat} {n0 hb kb μ mc ms pc pc' hp j ci : Nat} {lv : xL} {ls : Array Slot} {st0 rest : List Value} {a : Array Value} {out : xO} {h' : xH} {ks' : Nat} {r : Option Value}
    (hx : p.tables.exec = Jvm.exec) (hb9 : c.code = xmb μ) (hown : s.vm.findClass (xown (xmo μ)) = some m.cls) (hts : ∀ w ∈ xgw, w.before args s = true) (hnw : ∀ w ∈ xnw, w.before args s = true) (hZ : xZ old n0 s)
    (hr : vx_Run p l e R s m args below meth c H locs cells slots mc ms (F0 m pc ls st0) rest (xQc D tA old n0 out a) (xXc D tA old n0 out) (fun q => n0 ≤ q)) (ho : out = (some ci, r, h', ks')) (hS : va_S (fun q => n0 ≤ q) s.heap H locs)
    (htab : c.exceptionTable.toList = tableOf (xmh μ)) (hct : xctch (xmo μ) μ pc ci (xmc μ) = some (hp, pc', j)) (hj : j < xml μ) (hl : lv_has ls (xml μ) (xm (xad old n0) lv)) (hcc : cells + mc = h'.length - hb) (hss : slots + ms = ks' - kb)
    (kk : xG p l e R s m args below meth c Q D tA old n0 hb kb (xml μ) pc' (xdel j lv) [] h' ks') :
    W p l e R s m args below meth c H locs cells slots Q (F0 m pc ls st0) := by
  subst ho
  intro T hT X
  rcases hr T hT X with ⟨v, st₀, t, T', L, h0, X', hL, e1, e2, ⟨⟨hv, -⟩, -⟩, -⟩ | ⟨q, st₀, t, T', L, E, ce, h0, X', hL, e1, e2, ⟨⟨⟨ci2, C, T9, N, hx1, hx2, hx3⟩, hsz, hp9⟩, hF⟩, hce, hcv, hcl, st⟩
  · cases hv
  · cases hx1
    subst hx3
    obtain ⟨k1, k2, k3⟩ := vx_keep h0 e1 hS (fun _ _ h => h) (fun _ h => h) hL hF
    have hh : ∃ hp9, xhnd (xmo μ) pc ci (xmh μ) = some hp9 ∧ ((∃ k : Fin 4, (xmc μ)[hp9]? = some (some (.astore_n k)) ∧ hp = hp9 ∧ pc' = hp9 + 1 ∧ j = k) ∨ ((xmc μ)[hp9]? = some (some (.astore j)) ∧ hp = hp9 ∧ pc' = hp9 + 2)) := by
      unfold xctch at hct
      split at hct
      · rename_i hp9 hh9
        refine ⟨hp9, hh9, ?_⟩
        split at hct
        · rename_i k hk
          cases hct
          exact Or.inl ⟨k, hk, rfl, rfl, rfl⟩
        · rename_i k hk
          cases hct
          exact Or.inr ⟨hk, rfl, rfl⟩
        · cases hct
      · cases hct
    obtain ⟨hp9, hh9, hi9⟩ := hh
    obtain ⟨pre, x, suf, r', f1, f2, f3, f4, f5⟩ := xhnd_ok hh9
    have hxm : x ∈ xmh μ := by rw [f1]; exact List.mem_append_right _ List.mem_cons_self
    have hxc := xcat_ok hxm
    unfold xcatC at hxc
    rw [f4] at hxc
    dsimp only at hxc
    rw [hx2] at hxc
    simp only [Bool.and_eq_true, decide_eq_true_eq] at hxc
    obtain ⟨g1, ⟨g2, g3⟩, g4⟩ := hxc
    have hpass : ∀ z ∈ tableOf pre, covers z pc = false ∨ (z.catchType ≠ 0 ∧ ∃ nm : String, (Cond.classLink (xown (xmo μ)) z.catchType nm).before args s = true ∧ va_Nc E nm s) := by
      intro z hz
      obtain ⟨y, hy, rfl⟩ := List.mem_map.mp hz
      rcases f5 y hy with f5 | ⟨ci', r'', f5, f6⟩
      · refine Or.inl ?_
        unfold covers
        dsimp only
        simp only [Bool.and_eq_false_iff, decide_eq_false_iff_not]
        omega
      · refine Or.inr ?_
        have hyc := xcat_ok (μ := μ) (q := y) (by rw [f1]; exact List.mem_append_left _ hy)
        unfold xcatC at hyc
        rw [f5] at hyc
        dsimp only at hyc
        split at hyc
        · rename_i C' T' N' hc'
          simp only [Bool.and_eq_true, decide_eq_true_eq] at hyc
          exact ⟨hyc.1, C', hts _ (xig_mem hyc.2.1.1), hZ.2.2.2.1 _ (xnc_ok f6 hx2 hc')⟩
        · simp at hyc
    have hw := vx_catch (p := p) (l := l) (e := e) (R := R) (s := s) (m := m) (args := args) (below := below) (meth := meth) (c := c) (H := T'.heap) (locs := locs ++ L) (cells := cells + mc) (slots := slots + ms) (Q := Q) (pc := pc) (ls := ls) (rest := rest) (E := E) (ce := ce) (q := q) (name := E) hown (tableOf pre) ⟨x.1, x.2.1, x.2.2.1, x.2.2.2⟩ (tableOf suf)
      (by rw [htab, f1]; unfold tableOf; rw [List.map_append, List.map_cons]) hpass (by unfold covers; dsimp only; simp only [Bool.and_eq_true, decide_eq_true_eq]; exact f3) g1 (hts _ (xig_mem g2)) (hnw _ (List.mem_filter.mpr ⟨g4, g3⟩)) (by rw [e1]; exact hce) hcv hcl
      (by
        dsimp only
        rw [f2, hcc, hss]
        rcases hi9 with ⟨k, hk, rfl, rfl, rfl⟩ | ⟨hk, rfl, rfl⟩
        · have hd := xchk_ok (xdec μ) hk
          rw [Nat.zero_add] at hd
          exact lv_astore_n hx hb9 (xdl hd rfl) rfl hl hj rfl (fun ls' hl' => kk T'.heap (locs ++ L) ls' (by rw [e1]; exact hsz) (by rw [e1]; exact hp9) k3 (xdel_has hl'))
        · have hd := xchk_ok (xdec μ) hk
          rw [Nat.zero_add] at hd
          exact lv_astore hx hb9 (xdl hd rfl) hl hj rfl (fun ls' hl' => kk T'.heap (locs ++ L) ls' (by rw [e1]; exact hsz) (by rw [e1]; exact hp9) k3 (xdel_has hl')))
    obtain ⟨t2, a1, b1⟩ := hw T' rfl X'
    exact ⟨t2, st.trans a1, b1⟩
end XCA
