section XLO
variable {p : Program} {l : Launch} {e : Env} {R : Room} {s : State} {m : MethodId} {args : Array Value} {below : List Frame} {meth : Method} {c : Code}
set_option maxHeartbeats 4000000 in
theorem x_end {D : va_G} {tA : Nat → ClassId} {old : Nat → Nat} {n0 hb kb μ : Nat} {out : xO} (hx : p.tables.exec = Jvm.exec) (hb9 : c.code = xmb μ) (hlocks : meth.locks = false) (hret : meth.sig.returnType = xmr μ) :
    ∀ (i : Instr) (r : Option Value) (pc : Nat) (st : List Value) (h : xH) (ks : Nat) (H : Heap) (locs : List Loc) (ls : Array Slot), xexit μ i st = some r → out = (none, r, h, ks) → decode (xmb μ) pc = .ok (i, 1) → hb ≤ h.length → kb ≤ ks → H.size = n0 + h.length → xP D tA (xad old n0) h H → va_S (fun q => n0 ≤ q) s.heap H locs →
      W p l e R s m args below meth c H locs (h.length - hb) (ks - kb) (vx_MQ below (xQc D tA old n0 out) (xXc D tA old n0 out) args s (out.2.2.1.length - hb) (out.2.2.2 - kb) (fun q => n0 ≤ q)) (F0 m pc ls (st.map (xv (xad old n0)))) := by
  intro i r pc st h ks H locs ls hr9 ho hd _ _ hz hP hS
  subst ho
  cases i <;> first | (simp [xexit] at hr9; done) | skip
  case ireturn =>
    obtain ⟨v, t, rfl, ht, hn, rfl⟩ := xexit_i hr9
    exact vx_ret (W.zret hx hb9 (hret.trans ht) hn (fun t9 ht9 hW => ⟨⟨rfl, rfl, by rw [ht9]; exact hz, by rw [ht9]; exact hP⟩, va_S.F hS ht9⟩) hS.2.2 hd hlocks)
  case lreturn =>
    obtain ⟨v, rfl, ht, rfl⟩ := xexit_l hr9
    exact vx_ret (W.lret hx hb9 (hret.trans ht) (fun t9 ht9 hW => ⟨⟨rfl, rfl, by rw [ht9]; exact hz, by rw [ht9]; exact hP⟩, va_S.F hS ht9⟩) hS.2.2 hd hlocks)
  case dreturn =>
    obtain ⟨v, rfl, ht, rfl⟩ := xexit_d hr9
    exact vx_ret (W.dret hx hb9 (hret.trans ht) (fun t9 ht9 hW => ⟨⟨rfl, rfl, by rw [ht9]; exact hz, by rw [ht9]; exact hP⟩, va_S.F hS ht9⟩) hS.2.2 hd hlocks)
  case areturn =>
    obtain ⟨v, t, rfl, ht, hrt, rfl⟩ := xexit_a hr9
    exact vx_ret (W.aret hx hb9 (hret.trans ht) hrt (Or.inr ⟨_, rfl⟩) (fun t9 ht9 hW => ⟨⟨rfl, rfl, by rw [ht9]; exact hz, by rw [ht9]; exact hP⟩, va_S.F hS ht9⟩) hS.2.2 hd hlocks)
  case return_ =>
    obtain ⟨rfl, ht, rfl⟩ := xexit_v hr9
    exact vx_ret (W.vret hx hb9 (hret.trans ht) (fun t9 ht9 hW => ⟨⟨rfl, rfl, by rw [ht9]; exact hz, by rw [ht9]; exact hP⟩, va_S.F hS ht9⟩) hS.2.2 hd hlocks)
set_option maxHeartbeats 4000000 in
theorem x_loop {call : Nat → List Value → xH → Nat → Option xO} {D : va_G} {tA : Nat → ClassId} {old : Nat → Nat} {n0 hb kb μ : Nat} {sc sc' : Option (List Int32)} {out : xO} {Q : State → Prop}
    (hE : ∀ (i : Instr) (r : Option Value) (pc : Nat) (st : List Value) (h : xH) (ks : Nat) (H : Heap) (locs : List Loc) (ls : Array Slot), xexit μ i st = some r → out = (none, r, h, ks) → decode (xmb μ) pc = .ok (i, 1) → hb ≤ h.length → kb ≤ ks → H.size = n0 + h.length → xP D tA (xad old n0) h H → va_S (fun q => n0 ≤ q) s.heap H locs → W p l e R s m args below meth c H locs (h.length - hb) (ks - kb) Q (F0 m pc ls (st.map (xv (xad old n0)))))
    (hT : out.1 = none ∨ (Q = vx_MQ below (xQc D tA old n0 out) (xXc D tA old n0 out) args s (out.2.2.1.length - hb) (out.2.2.2 - kb) (fun q => n0 ≤ q) ∧ (xmh μ = [] → ∀ x ∈ c.exceptionTable.toList, False))) (htab : xmh μ ≠ [] → c.exceptionTable.toList = tableOf (xmh μ))
    (hcall : ∀ μ' as h ks out, call μ' as h ks = some out → (xcod μ' = true ∨ xcow μ' = true) ∧ xMet l D tA old n0 sc' μ' as h ks out) (hmono : ∀ μ' as h ks out, call μ' as h ks = some out → h.length ≤ out.2.2.1.length ∧ ks ≤ out.2.2.2)
    (hx : p.tables.exec = Jvm.exec) (hb9 : c.code = xmb μ) (hml : c.maxLocals = xml μ) (hown : s.vm.findClass (xown (xmo μ)) = some m.cls) (hts : ∀ w ∈ xgw, w.before args s = true) (hnw : ∀ w ∈ xnw, w.before args s = true) (hK : xK D tA s) (hX : xX sc old n0 s) (hX' : xX sc' old n0 s)
    (hini : xini μ = true → meth.name = "<init>") (hn0 : n0 ≤ s.heap.size) (hlocks : meth.locks = false) (hret : meth.sig.returnType = xmr μ) (hZ : xZ old n0 s) (hRf : xmf μ ≤ R.frames) (hRl : xmlo μ ≤ R.locals) (hRc : out.2.2.1.length - hb ≤ R.cells) (hRs : out.2.2.2 - kb ≤ R.slots) (hst : l.stackTraces = false) :
    ∀ (n pc : Nat) (lv : xL) (st : List Value) (h : xH) (ks : Nat), xloop call sc μ (xmo μ) (xml μ) (xini μ) (xmc μ) n pc lv st h ks = some out → hb ≤ h.length → kb ≤ ks →
      xG p l e R s m args below meth c Q D tA old n0 hb kb (xml μ) pc lv st h ks := by
  have hac : ∀ t, t < 3 → (Jvm.Cond.arrayClass (xtT t)).before args s = true := fun t ht => hts _ (xarr_ok ht)
  have hfix : CallFix p m c (xmb μ) (xml μ) s args xgw (xown (xmo μ)) := ⟨hx, hb9, hml, hown, hts⟩
  intro n
  induction n with
  | zero => intro pc lv st h ks he; cases he
  | succ n ih =>
    intro pc lv st h ks he hlb hkb
    have hmn := xloop_mono hmono _ _ _ _ _ _ _ he
    unfold xloop at he
    split at he
    · rename_i i hi
      have hd : ∃ len, decode (xmb μ) pc = .ok (i, len) ∧ (xlen i = 0 ∨ len = xlen i) := by
        have := xchk_ok (xdec μ) hi
        rwa [Nat.zero_add] at this
      have hstep : ∀ (pc' : Nat) (lv' : xL) (st' : List Value) (h' : xH) (ks' : Nat), xstep (xmo μ) (xml μ) (xini μ) sc i pc lv st h ks = some (pc', lv', st', h', ks') → xloop call sc μ (xmo μ) (xml μ) (xini μ) (xmc μ) n pc' lv' st' h' ks' = some out →
          xG p l e R s m args below meth c Q D tA old n0 hb kb (xml μ) pc lv st h ks := fun pc' lv' st' h' ks' hs hl9 => by
        have m1 := xstep_mono hs
        have m2 := xloop_mono hmono _ _ _ _ _ _ _ hl9
        exact x_step hx hb9 hown hts hnw hK hX hini hac hlb hkb hn0 hd hs (by omega) (by omega) (ih pc' lv' st' h' ks' hl9 (by omega) (by omega))
      -- a call that comes back, and the run behind it
      have hback : ∀ (k μ' : Nat) (as rest : List Value) (x : Nat) (r : Option Value) (h' : xH) (ks' : Nat), xinv (xmo μ) μ x st = some (k, μ', as, rest) → call μ' as h ks = some (none, r, h', ks') → ((k = 1 ∧ i = .invokevirtual x ∧ xrecv μ' as h = true ∧ xcod μ' = true) ∨ ((k = 2 ∨ (k = 3 ∧ xcod μ' = true)) ∧ i = .invokestatic x) ∨ ((k = 0 ∨ k = 4) ∧ i = .invokespecial x ∧ xmr μ' = none ∧ xini μ' = true ∧ xcod μ' = true)) →
          xloop call sc μ (xmo μ) (xml μ) (xini μ) (xmc μ) n (pc + 3) lv (r.toList ++ rest) h' ks' = some out →
          xG p l e R s m args below meth c Q D tA old n0 hb kb (xml μ) pc lv st h ks := fun k μ' as rest x r h' ks' hi9 hc9 hk hl9 => by
        have m1 := hmono _ _ _ _ _ hc9
        have m2 := xloop_mono hmono _ _ _ _ _ _ _ hl9
        dsimp only at m1
        obtain ⟨hcd, hM⟩ := hcall _ _ _ _ _ hc9
        obtain ⟨r', hf, hn, hcat, hfr, hlo, hsp⟩ := xinv_ok hi9
        intro H locs ls hz hP hS hl
        have hdg : decode (xmb μ) pc = .ok (i, 3) := by
          rcases hk with ⟨-, rfl, -⟩ | ⟨-, rfl⟩ | ⟨-, rfl, -⟩ <;> exact xdl hd rfl
        have hcd' : xcod μ' = true ∨ (xcow μ' = true ∧ k = 2 ∧ ((none, r, h', ks') : xO).1 = none) := by
          rcases hk with ⟨-, -, -, hk⟩ | ⟨hk | ⟨-, hk⟩, -⟩ | ⟨-, -, -, -, hk⟩
          · exact Or.inl hk
          · exact hcd.imp id (fun q => ⟨q, hk, rfl⟩)
          · exact Or.inl hk
          · exact Or.inl hk
        have hk' : (k = 1 ∧ i = .invokevirtual x ∧ xrecv μ' as h = true) ∨ ((k = 2 ∨ (k = 3 ∧ ((none, r, h', ks') : xO).1 = none)) ∧ i = .invokestatic x) ∨ ((k = 0 ∨ k = 4) ∧ i = .invokespecial x ∧ xmr μ' = none ∧ xini μ' = true ∧ ((none, r, h', ks') : xO).1 = none) := by
          rcases hk with ⟨hk, hi9, hk2, -⟩ | ⟨hk, hi9⟩ | ⟨hk, hi9, hk2, hk3, -⟩
          · exact Or.inl ⟨hk, hi9, hk2⟩
          · exact Or.inr (Or.inl ⟨hk.imp id (fun q => ⟨q.1, rfl⟩), hi9⟩)
          · exact Or.inr (Or.inr ⟨hk, hi9, hk2, hk3, rfl⟩)
        have hrun := x_run (e := e) (below := below) (meth := meth) (R := R) (cells := h.length - hb) (slots := ks - kb) hM hcd' hfix hnw hK hX' hZ hn0 hRf hRl hz hP hS hl hf hn hcat hfr hlo hsp hk' hdg (by dsimp only; omega) (by dsimp only; omega)
        refine x_cret hrun rfl hS (fun H1 locs1 hz1 hP1 hS1 => ?_)
        have := ih (pc + 3) lv (r.toList ++ rest) h' ks' hl9 (by omega) (by omega) H1 locs1 ls hz1 hP1 hS1 hl
        dsimp only
        rw [show h.length - hb + (h'.length - h.length) = h'.length - hb by omega, show ks - kb + (ks' - ks) = ks' - kb by omega, ← List.map_append, List.append_nil]
        exact this
      -- a call that throws
      have hthr : ∀ (k μ' : Nat) (as rest : List Value) (x ci : Nat) (r : Option Value) (h' : xH) (ks' : Nat), xinv (xmo μ) μ x st = some (k, μ', as, rest) → call μ' as h ks = some (some ci, r, h', ks') → ((k = 1 ∧ i = .invokevirtual x ∧ xrecv μ' as h = true) ∨ (k = 2 ∧ i = .invokestatic x)) → xcod μ' = true → xmh μ = [] →
          out = (some ci, none, h', ks') →
          xG p l e R s m args below meth c Q D tA old n0 hb kb (xml μ) pc lv st h ks := fun k μ' as rest x ci r h' ks' hi9 hc9 hk hcd hmh ho => by
        rcases hT with hT | ⟨hT, hnoh⟩
        · rw [ho] at hT
          cases hT
        subst ho
        subst hT
        have m1 := hmono _ _ _ _ _ hc9
        dsimp only at m1 hRc hRs
        obtain ⟨-, hM⟩ := hcall _ _ _ _ _ hc9
        obtain ⟨r', hf, hn, hcat, hfr, hlo, hsp⟩ := xinv_ok hi9
        intro H locs ls hz hP hS hl
        have hdg : decode (xmb μ) pc = .ok (i, 3) := by
          rcases hk with ⟨-, rfl, -⟩ | ⟨-, rfl⟩ <;> exact xdl hd rfl
        have hrun := x_run (e := e) (below := below) (meth := meth) (R := R) (cells := h.length - hb) (slots := ks - kb) hM (Or.inl hcd) hfix hnw hK hX' hZ hn0 hRf hRl hz hP hS hl hf hn hcat hfr hlo hsp (hk.imp id (fun q => Or.inl ⟨Or.inl q.1, q.2⟩)) hdg (by dsimp only; omega) (by dsimp only; omega)
        exact x_cthr hrun rfl hS (hnoh hmh) hlocks (by dsimp only; omega) (by dsimp only; omega)
      -- a call that throws, and is caught here
      have hcat9 : ∀ (k μ' : Nat) (as rest : List Value) (x ci : Nat) (r : Option Value) (h' : xH) (ks' hp pc' j : Nat), xinv (xmo μ) μ x st = some (k, μ', as, rest) → call μ' as h ks = some (some ci, r, h', ks') → ((k = 1 ∧ i = .invokevirtual x ∧ xrecv μ' as h = true) ∨ (k = 2 ∧ i = .invokestatic x)) → xcod μ' = true → xmh μ ≠ [] →
          xctch (xmo μ) μ pc ci (xmc μ) = some (hp, pc', j) → j < xml μ → xloop call sc μ (xmo μ) (xml μ) (xini μ) (xmc μ) n pc' (xdel j lv) [] h' ks' = some out →
          xG p l e R s m args below meth c Q D tA old n0 hb kb (xml μ) pc lv st h ks := fun k μ' as rest x ci r h' ks' hp pc' j hi9 hc9 hk hcd hmh hct hj hl9 => by
        have m1 := hmono _ _ _ _ _ hc9
        have m2 := xloop_mono hmono _ _ _ _ _ _ _ hl9
        dsimp only at m1
        obtain ⟨-, hM⟩ := hcall _ _ _ _ _ hc9
        obtain ⟨r', hf, hn, hcat, hfr, hlo, hsp⟩ := xinv_ok hi9
        intro H locs ls hz hP hS hl
        have hdg : decode (xmb μ) pc = .ok (i, 3) := by
          rcases hk with ⟨-, rfl, -⟩ | ⟨-, rfl⟩ <;> exact xdl hd rfl
        have hrun := x_run (e := e) (below := below) (meth := meth) (R := R) (cells := h.length - hb) (slots := ks - kb) hM (Or.inl hcd) hfix hnw hK hX' hZ hn0 hRf hRl hz hP hS hl hf hn hcat hfr hlo hsp (hk.imp id (fun q => Or.inl ⟨Or.inl q.1, q.2⟩)) hdg (by dsimp only; omega) (by dsimp only; omega)
        exact x_ccat hx hb9 hown hts hnw hZ hrun rfl hS (htab hmh) hct hj hl (by dsimp only; omega) (by dsimp only; omega) (ih pc' (xdel j lv) [] h' ks' hl9 (by omega) (by omega))
      split at he
      -- the five returns
      · split at he
        · rename_i hr9
          intro H locs ls hz hP hS hl
          exact hE _ _ pc st h ks H locs ls hr9 (Option.some.inj he).symm (xdl hd rfl) hlb hkb hz hP hS
        · cases he
      · split at he
        · rename_i hr9
          intro H locs ls hz hP hS hl
          exact hE _ _ pc st h ks H locs ls hr9 (Option.some.inj he).symm (xdl hd rfl) hlb hkb hz hP hS
        · cases he
      · split at he
        · rename_i hr9
          intro H locs ls hz hP hS hl
          exact hE _ _ pc st h ks H locs ls hr9 (Option.some.inj he).symm (xdl hd rfl) hlb hkb hz hP hS
        · cases he
      · split at he
        · rename_i hr9
          intro H locs ls hz hP hS hl
          exact hE _ _ pc st h ks H locs ls hr9 (Option.some.inj he).symm (xdl hd rfl) hlb hkb hz hP hS
        · cases he
      · split at he
        · rename_i hr9
          intro H locs ls hz hP hS hl
          exact hE _ _ pc st h ks H locs ls hr9 (Option.some.inj he).symm (xdl hd rfl) hlb hkb hz hP hS
        · cases he
      -- invokestatic
      · split at he
        · rename_i v rest hm9
          have hk9 := ih (pc + 3) lv (.int v :: rest) h ks he hlb hkb
          intro H locs ls hz hP hS hl
          have hcr : h.length - hb ≤ R.cells ∧ ks - kb ≤ R.slots := ⟨by omega, by omega⟩
          have hml' : c.maxLocals = ls.size := hml.trans hl.1.symm
          unfold xmath at hm9
          split at hm9
          · rename_i r9 hf9
            split at hm9
            · split at hm9
              · rename_i hc9
                cases hm9
                have hw := xcal_ok hf9
                simp only [xcalC, Bool.and_eq_true] at hw
                exact va_mmax hx hb9 hml' hown (hts _ (xig_mem hw.1.1.1)) (hts _ (xig_mem hw.1.1.2)) (hts _ (xig_mem hw.1.2)) (hts _ (xig_mem hw.2)) (Nat.le_trans hc9.2 hRf) (by rw [xcat_m]; exact Nat.le_trans hc9.1 hRl) hcr.1 hcr.2 (xdl hd rfl) (hk9 H locs ls hz hP hS hl)
              · cases hm9
            · cases hm9
          · rename_i r9 hf9
            split at hm9
            · split at hm9
              · rename_i hc9
                cases hm9
                have hw := xcal_ok hf9
                simp only [xcalC, Bool.and_eq_true] at hw
                exact va_mmin hx hb9 hml' hown (hts _ (xig_mem hw.1.1.1)) (hts _ (xig_mem hw.1.1.2)) (hts _ (xig_mem hw.1.2)) (hts _ (xig_mem hw.2)) (Nat.le_trans hc9.2 hRf) (by rw [xcat_m]; exact Nat.le_trans hc9.1 hRl) hcr.1 hcr.2 (xdl hd rfl) (hk9 H locs ls hz hP hS hl)
              · cases hm9
            · cases hm9
          · rename_i r9 hf9
            split at hm9
            · split at hm9
              · rename_i hc9
                cases hm9
                have hw := xcal_ok hf9
                simp only [xcalC, Bool.and_eq_true] at hw
                exact va_mabs hx hb9 hml' hown (hts _ (xig_mem hw.1.1.1)) (hts _ (xig_mem hw.1.1.2)) (hts _ (xig_mem hw.1.2)) (hts _ (xig_mem hw.2)) (Nat.le_trans hc9.2 hRf) (by rw [xcat_m]; exact Nat.le_trans hc9.1 hRl) hcr.1 hcr.2 (xdl hd rfl) (hk9 H locs ls hz hP hS hl)
              · cases hm9
            · cases hm9
          · cases hm9
        · split at he
          · rename_i hi9
            split at he
            · rename_i hk9
              split at he
              · rename_i hc9
                exact hback _ _ _ _ _ _ _ _ hi9 hc9 (Or.inr (Or.inl ⟨Or.inl hk9, rfl⟩)) he
              · rename_i hc9
                split at he
                · rename_i hcd
                  split at he
                  · rename_i hmh
                    exact hthr _ _ _ _ _ _ _ _ _ hi9 hc9 (Or.inr ⟨hk9, rfl⟩) hcd hmh (Option.some.inj he).symm
                  · rename_i hmh
                    split at he
                    · rename_i hct
                      split at he
                      · rename_i hj
                        exact hcat9 _ _ _ _ _ _ _ _ _ _ _ _ hi9 hc9 (Or.inr ⟨hk9, rfl⟩) hcd hmh hct hj he
                      · cases he
                    · cases he
                · cases he
              · cases he
            · split at he
              · rename_i hk9
                split at he
                · rename_i hc9
                  exact hback _ _ _ _ _ _ _ _ hi9 hc9 (Or.inr (Or.inl ⟨Or.inr hk9, rfl⟩)) he
                · cases he
              · cases he
          · split at he
            · rename_i hc9
              exact x_cpy hx hb9 hml hown hts hK hRf hRl hn0 (xdl hd rfl) hc9 (ih _ _ _ _ _ he (by rw [xcpy_len hc9]; exact hlb) hkb)
            · cases he
      -- invokevirtual
      · split at he
        · rename_i hi9
          split at he
          · rename_i hk9
            split at he
            · rename_i hc9
              exact hback _ _ _ _ _ _ _ _ hi9 hc9 (Or.inl ⟨hk9.1, rfl, hk9.2.1, hk9.2.2⟩) he
            · rename_i hc9
              split at he
              · rename_i hmh
                exact hthr _ _ _ _ _ _ _ _ _ hi9 hc9 (Or.inl ⟨hk9.1, rfl, hk9.2.1⟩) hk9.2.2 hmh (Option.some.inj he).symm
              · rename_i hmh
                split at he
                · rename_i hct
                  split at he
                  · rename_i hj
                    exact hcat9 _ _ _ _ _ _ _ _ _ _ _ _ hi9 hc9 (Or.inl ⟨hk9.1, rfl, hk9.2.1⟩) hk9.2.2 hmh hct hj he
                  · cases he
                · cases he
            · cases he
          · cases he
        · cases he
      -- invokespecial
      · split at he
        · rename_i hf9
          split at he
          · split at he
            · rename_i hc9
              have hk9 := ih (pc + 3) lv _ h ks he hlb hkb
              intro H locs ls hz hP hS hl
              have hw := xcal_ok hf9
              simp only [xcalC, Bool.and_eq_true] at hw
              exact W.objInit hx hb9 hown (hts _ (xig_mem hw.1.1)) (hts _ (xig_mem hw.1.2)) (hts _ (xig_mem hw.2)) rfl (by rw [hml]; exact hl.1) rfl (xdl hd rfl) (Nat.le_trans hc9.2 hRf) (by rw [xcat_m]; show 2 * 0 + _ + 12 ≤ _; omega) (hk9 H locs ls hz hP hS hl)
            · cases he
          · cases he
        · split at he
          · rename_i hi9
            split at he
            · rename_i hk9
              split at he
              · rename_i hc9
                exact hback _ _ _ _ _ _ _ _ hi9 hc9 (Or.inr (Or.inr ⟨hk9.1, rfl, hk9.2.1, hk9.2.2.1, hk9.2.2.2⟩)) he
              · cases he
            · cases he
          · cases he
      -- getstatic
      · split at he
        · rename_i hf9
          have hw := xgst_ok hf9
          unfold xgstC at hw
          simp only [Bool.and_eq_true] at hw
          have hk9 := ih (pc + 3) lv _ h ks he hlb hkb
          intro H locs ls hz hP hS hl
          exact va_gets hx hb9 (hZ.2.2.2.2 hw.1).1 hS hown (hts _ (xig_mem hw.2)) (fun _ h9 => h9) (xdl hd rfl) (hk9 H locs ls hz hP hS hl)
        · cases he
      -- invokeinterface
      · split at he
        · rename_i hf9
          split at he
          · split at he
            · rename_i hc8
              split at he
              · rename_i hc9
                have m1 := hmono _ _ _ _ _ hc9
                have m2 := xloop_mono hmono _ _ _ _ _ _ _ he
                dsimp only at m1
                intro H locs ls hz hP hS hl
                refine x_itf (hcall _ _ _ _ _ hc9).2 hc8.2.2.2.2 hfix hnw hK hX' hZ hn0 hRf hRl hz hP hS hl hf9 hc8.1 hc8.2.1 hc8.2.2.1 hc8.2.2.2.1 (xdl hd rfl) (by omega) (by omega) (fun H1 locs1 hz1 hP1 hS1 => ?_)
                have := ih _ _ _ _ _ he (by omega) (by omega) H1 locs1 ls hz1 hP1 hS1 hl
                have a1 : ∀ a b d : Nat, a ≤ b → b ≤ d → b - a + (d - b) = d - a := fun a b d _ _ => by omega
                rw [a1 _ _ _ hlb m1.1, a1 _ _ _ hkb m1.2]
                exact this
              · cases he
            · cases he
          · cases he
        · cases he
      · split at he
        · rename_i hm9
          have m2 := xloop_mono hmono _ _ _ _ _ _ _ he
          rw [List.length_append] at m2
          exact x_mul hx hb9 hown hts hnw hK hac hlb hkb (xdl hd rfl) hm9 (by rw [List.length_append]; omega) (by omega) (ih _ _ _ _ _ he (by rw [List.length_append]; omega) (by omega))
        · cases he
      · split at he
        · rename_i hm9
          have m2 := xloop_mono hmono _ _ _ _ _ _ _ he
          rw [List.length_append] at m2
          exact x_anw hx hb9 hown hts hnw hK hlb (xdl hd rfl) hm9 (by rw [List.length_append]; omega) (by omega) (ih _ _ _ _ _ he (by rw [List.length_append]; omega) hkb)
        · cases he
      · split at he
        · rename_i ci r9 ht9
          split at he
          · split at he
            · rename_i hmh
              rcases hT with hT | ⟨hT, hnoh⟩
              · have ho := (Option.some.inj he).symm
                rw [ho] at hT
                cases hT
              · have ho := (Option.some.inj he).symm
                subst ho
                subst hT
                exact x_thr hx hb9 hml hown hts hnw hK hZ (hnoh hmh) hlocks hst hRf hRl hlb hkb ht9 hRc hRs
            · cases he
          · cases he
        · split at he
          · rename_i hs
            exact hstep _ _ _ _ _ hs he
          · cases he
      · split at he
        · rename_i hs
          exact hstep _ _ _ _ _ hs he
        · cases he
    · cases he
theorem x_head {l : Launch} {D : va_G} {tA : Nat → ClassId} {old : Nat → Nat} {n0 : Nat} {sc : Option (List Int32)} {call : Nat → List Value → xH → Nat → Option xO} {F μ : Nat} {as : List Value} {h : xH} {ks : Nat} {out : xO} {S : Spec}
    (hst : l.stackTraces = false) (hc : xcod μ = true ∨ xcow μ = true) (hle : (lg_sl as).length ≤ xml μ) (he : xloop call sc μ (xmo μ) (xml μ) (xini μ) (xmc μ) F 0 (lv_args 0 as) [] h ks = some out)
    (ih : ∀ μ' as h ks out, call μ' as h ks = some out → (xcod μ' = true ∨ xcow μ' = true) ∧ xMet l D tA old n0 sc μ' as h ks out) (hmono : ∀ μ' as h ks out, call μ' as h ks = some out → h.length ≤ out.2.2.1.length ∧ ks ≤ out.2.2.2)
    (p : Program) (e : Env) (s : State) (m : MethodId) (args : Array Value) (below : List Frame) (meth : Method) (c : Code) (s₁ : State) (B : BodyLoose p l (xmy μ) S (xmb μ) (xml μ) (xmr μ) e s m args below meth c s₁)
    (hpre : ∀ w ∈ xgw, w.before args s = true) (hml : c.maxLocals = xml μ) (hnoh : xmh μ = [] → ∀ x ∈ c.exceptionTable.toList, False) (htab : xmh μ ≠ [] → c.exceptionTable.toList = tableOf (xmh μ)) (hv : va_Pc (as.map (xv (xad old n0))) (xPc D tA old n0 sc h) args s) :
    W p l e { frames := xmf μ, cells := out.2.2.1.length - h.length, slots := out.2.2.2 - ks, locals := xmlo μ } s m args below meth c s.heap [] 0 0 (vx_MQ below (xQc D tA old n0 out) (xXc D tA old n0 out) args s (out.2.2.1.length - h.length) (out.2.2.2 - ks) (fun q => n0 ≤ q)) (entryFrame m args (xml μ)) := by
  obtain ⟨m1, -, -, -, m5, m6⟩ := xmet_ok hc
  have hmn := xloop_mono hmono _ _ _ _ _ _ _ he
  obtain ⟨rfl, hz, hP, hK, hN, hX, hZ⟩ := hv
  have hl := lv_entry (as.map (xv (xad old n0))) (n := xml μ) (by rw [xlg_m]; exact hle)
  rw [lg_entry_eq]
  generalize (lg_sl (as.map (xv (xad old n0))) ++ List.replicate (xml μ - (lg_sl (as.map (xv (xad old n0)))).length) Slot.unset).toArray = ls at hl ⊢
  have hG := x_loop (p := p) (l := l) (e := e) (R := { frames := xmf μ, cells := out.2.2.1.length - h.length, slots := out.2.2.2 - ks, locals := xmlo μ }) (s := s) (m := m) (args := (as.map (xv (xad old n0))).toArray) (below := below) (meth := meth) (c := c) (D := D) (tA := tA) (old := old) (n0 := n0) (hb := h.length) (kb := ks) (μ := μ) (sc := sc) (sc' := sc) (out := out)
    (x_end B.exec B.bytes B.notSynchronized B.returns) (Or.inr ⟨rfl, hnoh⟩) htab ih hmono B.exec B.bytes hml (by rw [m5]; exact findClass_of_methodNamed B.named) hpre (fun w hw => xnw_use hw (hN w hw)) hK hX hX (fun hi => (name_of_methodNamed B.named B.method).1.trans (m6 hi)) (by omega) B.notSynchronized B.returns hZ (Nat.le_refl _) (Nat.le_refl _) (Nat.le_refl _) (Nat.le_refl _) hst
    _ _ _ _ _ _ he (Nat.le_refl _) (Nat.le_refl _) s.heap [] ls hz hP va_S.rf (by rw [← xlv_m]; exact hl)
  rw [Nat.sub_self, Nat.sub_self] at hG
  exact hG
set_option maxRecDepth 100000 in
theorem xmh_all : (List.range xNM).all (fun μ => xcow μ || (xmh μ).isEmpty) = true := by decide +kernel
theorem xmh_cod {μ : Nat} (h : xcod μ = true) : xmh μ = [] := by
  have h1 := List.all_eq_true.mp xmh_all μ (List.mem_range.mpr (xcod_lt h))
  rw [Bool.or_eq_true] at h1
  exact h1.elim (fun h2 => absurd h2 (xcodw h)) List.isEmpty_iff.mp
/-- THE LAW OF THE LISTS: what a call says on lists, the machine does -/
theorem x_meth {F : Nat} {sc : Option (List Int32)} {l : Launch} {D : va_G} {tA : Nat → ClassId} {old : Nat → Nat} {n0 : Nat} (hst : l.stackTraces = false) : ∀ (d μ : Nat) (as : List Value) (h : xH) (ks : Nat) (out : xO), xcall F sc d μ as h ks = some out → (xcod μ = true ∨ xcow μ = true) ∧ xMet l D tA old n0 sc μ as h ks out := by
  intro d
  induction d with
  | zero => intro μ as h ks out he; cases he
  | succ d ih =>
    intro μ as h ks out he
    unfold xcall at he
    split at he
    · rename_i hc
      obtain ⟨hcw, hle⟩ := hc
      refine ⟨hcw, ?_⟩
      have m1 := (xmet_ok hcw).1
      have hmono := fun μ as h ks out q => xcall_mono (F := F) (sc := sc) d μ as h ks out q
      rcases hcw with hcd | hcw
      · refine vx_ofW (cc := xmb μ) (maxL := xml μ) (ret := xmr μ) m1 (xws_c hcd) ?_
        intro p e s m args below meth c s₁ B hml hnoh hv
        exact x_head hst (Or.inl hcd) hle he ih hmono p e s m args below meth c s₁ B (fun w hw => atoms_spec (ws := xws μ) B.pre w (by rw [xws_c hcd]; exact List.mem_cons_of_mem _ hw)) hml (fun _ => hnoh) (fun hne => absurd (xmh_cod hcd) hne) hv
      · refine vx_ofWH (cc := xmb μ) (maxL := xml μ) (ret := xmr μ) (hh := xmh μ) m1 (xws_w hcw) ?_
        intro p e s m args below meth c s₁ B hml hv
        have ht := vx_table (x := xmy μ) B (atoms_spec (ws := xws μ) B.pre (.codeWith (xmy μ) (xmb μ) (xml μ) (xmr μ) (xmh μ)) (by rw [xws_w hcw]; exact List.mem_cons_self))
        exact x_head hst (Or.inr hcw) hle he ih hmono p e s m args below meth c s₁ B (fun w hw => atoms_spec (ws := xws μ) B.pre w (by rw [xws_w hcw]; exact List.mem_cons_of_mem _ hw)) hml (fun h0 x hx => by rw [ht, h0] at hx; cases hx) (fun _ => ht) hv
    · cases he
end XLO
