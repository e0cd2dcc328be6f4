section XLB
theorem xexit_i {μ : Nat} {st : List Value} {r : Option Value} (h : xexit μ .ireturn st = some r) : ∃ v t, st = [.int v] ∧ xmr μ = some t ∧ narrow t (.int v) = .int v ∧ r = some (.int v) := by
  match st, h with
  | [.int v], h =>
    unfold xexit at h
    dsimp only at h
    split at h
    · rename_i t ht
      split at h
      · rename_i hn
        exact ⟨v, t, rfl, ht, hn, (Option.some.inj h).symm⟩
      · cases h
    · cases h
theorem xexit_l {μ : Nat} {st : List Value} {r : Option Value} (h : xexit μ .lreturn st = some r) : ∃ v, st = [.long v] ∧ xmr μ = some .long ∧ r = some (.long v) := by
  match st, h with
  | [.long v], h =>
    unfold xexit at h
    dsimp only at h
    split at h
    · rename_i ht
      exact ⟨v, rfl, ht, (Option.some.inj h).symm⟩
    · cases h
theorem xexit_d {μ : Nat} {st : List Value} {r : Option Value} (h : xexit μ .dreturn st = some r) : ∃ v, st = [.double v] ∧ xmr μ = some .double ∧ r = some (.double v) := by
  match st, h with
  | [.double v], h =>
    unfold xexit at h
    dsimp only at h
    split at h
    · rename_i ht
      exact ⟨v, rfl, ht, (Option.some.inj h).symm⟩
    · cases h
theorem xexit_a {μ : Nat} {st : List Value} {r : Option Value} (h : xexit μ .areturn st = some r) : ∃ v t, st = [.ref v] ∧ xmr μ = some t ∧ ((∃ n, t = .object n) ∨ ∃ t', t = .array t') ∧ r = some (.ref v) := by
  match st, h with
  | [.ref v], h =>
    unfold xexit at h
    dsimp only at h
    split at h
    · rename_i n ht
      exact ⟨v, _, rfl, ht, Or.inl ⟨n, rfl⟩, (Option.some.inj h).symm⟩
    · rename_i n ht
      exact ⟨v, _, rfl, ht, Or.inr ⟨n, rfl⟩, (Option.some.inj h).symm⟩
    · cases h
theorem xexit_v {μ : Nat} {st : List Value} {r : Option Value} (h : xexit μ .return_ st = some r) : st = [] ∧ xmr μ = none ∧ r = none := by
  match st, h with
  | [], h =>
    unfold xexit at h
    dsimp only at h
    split at h
    · rename_i ht
      exact ⟨rfl, ht, (Option.some.inj h).symm⟩
    · cases h
theorem xinv_ok {o μ x k μ' : Nat} {st as rest : List Value} (h : xinv o μ x st = some (k, μ', as, rest)) : ∃ r', xfnd (xcalT o) x = some (k, μ', r') ∧ xmn μ' ≤ st.length ∧ (rest.map fun v => v.category).sum ≤ 8 ∧ xmf μ' + 1 ≤ xmf μ ∧ 8 + (xml μ' + 11) + xmlo μ' ≤ xmlo μ ∧
    ((k = 2 ∨ k = 3) → as = (st.take (xmn μ')).reverse ∧ st.drop (xmn μ') = rest) ∧ (¬ (k = 2 ∨ k = 3) → ∃ b, as = .ref b :: (st.take (xmn μ')).reverse ∧ st.drop (xmn μ') = .ref b :: rest) := by
  unfold xinv at h
  split at h
  · rename_i k2 μ2 r2 hf
    split at h
    · rename_i hle
      split at h
      · rename_i hk
        split at h
        · rename_i hc
          cases h
          exact ⟨r2, hf, hle, hc.1, hc.2.1, hc.2.2, fun _ => ⟨rfl, rfl⟩, fun q => absurd hk q⟩
        · cases h
      · rename_i hk
        split at h
        · rename_i b rest2 hdr
          split at h
          · rename_i hc
            cases h
            exact ⟨r2, hf, hle, hc.1, hc.2.1, hc.2.2, fun q => absurd q hk, fun _ => ⟨b, rfl, hdr⟩⟩
          · cases h
        · cases h
    · cases h
  · cases h
section
variable {p : Program} {l : Launch} {e : Env} {R : Room} {s : State} {m : MethodId} {args : Array Value} {below : List Frame} {meth : Method} {c : Code} {H : Heap} {locs : List Loc} {cells slots : Nat} {Q : State → Prop}
theorem x_ofva {mc ms : Nat} {g : JFrame} {rest : List Value} {Qa : State → Outcome → State → Prop} {free : Addr → Prop} {XC : String → State → State → Prop} (h : va_Run p l e R s m args below meth c H locs cells slots mc ms g rest Qa free) : vx_Run p l e R s m args below meth c H locs cells slots mc ms g rest Qa XC free :=
  fun T hT X => Or.inl (h T hT X)
/-- the call's run, by its kind -/
theorem x_run {D : va_G} {tA : Nat → ClassId} {old : Nat → Nat} {n0 μ μ' x k pc : Nat} {sc : Option (List Int32)} {st as rest : List Value} {h : xH} {ks : Nat} {out : xO} {ls : Array Slot} {lv : xL} {i : Instr} {r' : Nat × Nat × Nat × Nat}
    (hM : xMet l D tA old n0 sc μ' as h ks out) (hcd : xcod μ' = true ∨ (xcow μ' = true ∧ k = 2 ∧ out.1 = none)) (hfix : CallFix p m c (xmb μ) (xml μ) s args xgw (xown (xmo μ)))
    (hnw : ∀ w ∈ xnw, w.before args s = true) (hK : xK D tA s) (hX : xX sc old n0 s) (hZ : xZ old n0 s) (hn0 : n0 ≤ s.heap.size) (hRf : xmf μ ≤ R.frames) (hRl : xmlo μ ≤ R.locals)
    (hz : H.size = n0 + h.length) (hP : xP D tA (xad old n0) h H) (hS : va_S (fun q => n0 ≤ q) s.heap H locs) (hl : lv_has ls (xml μ) (xm (xad old n0) lv))
    (hf : xfnd (xcalT (xmo μ)) x = some (k, μ', r')) (hn : xmn μ' ≤ st.length) (hcat : (rest.map fun v => v.category).sum ≤ 8) (hfr : xmf μ' + 1 ≤ xmf μ) (hlo : 8 + (xml μ' + 11) + xmlo μ' ≤ xmlo μ)
    (hsp : ((k = 2 ∨ k = 3) → as = (st.take (xmn μ')).reverse ∧ st.drop (xmn μ') = rest) ∧ (¬ (k = 2 ∨ k = 3) → ∃ b, as = .ref b :: (st.take (xmn μ')).reverse ∧ st.drop (xmn μ') = .ref b :: rest))
    (hk : (k = 1 ∧ i = .invokevirtual x ∧ xrecv μ' as h = true) ∨ ((k = 2 ∨ (k = 3 ∧ out.1 = none)) ∧ i = .invokestatic x) ∨ ((k = 0 ∨ k = 4) ∧ i = .invokespecial x ∧ xmr μ' = none ∧ xini μ' = true ∧ out.1 = none))
    (hdg : decode (xmb μ) pc = .ok (i, 3)) (hc1 : cells + (out.2.2.1.length - h.length) ≤ R.cells) (hc2 : slots + (out.2.2.2 - ks) ≤ R.slots) :
    vx_Run p l e R s m args below meth c H locs cells slots (out.2.2.1.length - h.length) (out.2.2.2 - ks) (F0 m pc ls (st.map (xv (xad old n0)))) (rest.map (xv (xad old n0))) (xQc D tA old n0 out (as.map (xv (xad old n0))).toArray) (xXc D tA old n0 out) (fun q => n0 ≤ q) := by
  have hcw : xcod μ' = true ∨ xcow μ' = true := hcd.imp id (fun q => q.1)
  obtain ⟨m1, m2, m3, m4, m5, m6⟩ := xmet_ok hcw
  have hts := hfix.2.2.2.2
  have hwc := xcal_ok hf
  have hPc : ∀ U : State, U.heap = H → s.WarmedH U.vm → xPc D tA old n0 sc h U := fun U hU hW => xPc_at hnw hK hX hZ hn0 hz hP hS U hU hW
  have hroom : 2 * (F0 m pc ls (st.map (xv (xad old n0)))).monitorRoom + ((rest.map (xv (xad old n0))).map fun v => v.category).sum ≤ 8 := lv_room (by rw [xcat_m]; exact hcat)
  have hlen : ((st.take (xmn μ')).reverse.map (xv (xad old n0))).length = xmn μ' := by rw [List.length_map, List.length_reverse, List.length_take]; omega
  have hR : xmf μ' + 1 ≤ R.frames ∧ 8 + (xml μ' + 11) + xmlo μ' ≤ R.locals := ⟨Nat.le_trans hfr hRf, Nat.le_trans hlo hRl⟩
  have hplain : out.1 = none → Met l (xmy μ') (xws μ') ({ frames := xmf μ', cells := out.2.2.1.length - h.length, slots := out.2.2.2 - ks, locals := xmlo μ' } : Room) (va_Pc (as.map (xv (xad old n0))) (xPc D tA old n0 sc h)) (xQc D tA old n0 out) (out.2.2.1.length - h.length) (out.2.2.2 - ks) (fun q => n0 ≤ q) := fun ho => by
    obtain ⟨o1, o2, o3, o4⟩ := out
    cases ho
    exact xMet_plain hM
  rcases hk with ⟨rfl, rfl, hrec⟩ | ⟨hk, rfl⟩ | ⟨hk, rfl, hmr, hin, ho⟩
  · have hcd : xcod μ' = true := by
      rcases hcd with q | ⟨-, q, -⟩
      · exact q
      · cases q
    obtain ⟨b, rfl, hdr⟩ := hsp.2 (by omega)
    simp only [xcalC, Bool.and_eq_true] at hwc
    obtain ⟨⟨⟨w1, w2⟩, w3⟩, w4⟩ := hwc
    have hcell : ∃ cellB : Cell, H[xad old n0 b]? = some cellB ∧ cellB.vm.isStatics = false ∧ s.vm.findClass (xmy μ').cls = some cellB.cls := by
      unfold xrecv at hrec
      dsimp only at hrec
      split at hrec
      · rename_i ci fs hg
        rw [Bool.and_eq_true, decide_eq_true_eq] at hrec
        obtain ⟨rfl, hlt⟩ := hrec
        have hlt := Nat.blt_eq.mp hlt
        obtain ⟨⟨C, T, N⟩, hc, cell, q1, q2, q3, -⟩ := xP_obj hP hg (Nat.lt_of_lt_of_le hlt (by decide))
        have hC := xcl_own hc hlt
        obtain ⟨-, hfc, -⟩ := hK.1.1 _ _ hc
        refine ⟨cell, q1, by rw [q3]; rfl, ?_⟩
        rw [q2, ← m5, ← hC]
        exact hfc
      · cases hrec
    exact vx_runV hfix hM (cwV (xmn μ') hts (xGood (fun w hw => by
        rcases List.mem_append.mp hw with h9 | h9
        · rcases List.mem_cons.mp h9 with rfl | h9
          · exact xig_mem w1
          · rcases List.mem_cons.mp h9 with rfl | h9
            · exact xig_mem w2
            · rcases List.mem_cons.mp h9 with rfl | h9
              · exact xig_mem w3
              · rw [List.mem_singleton.mp h9]
                exact xig_mem w4
        · exact xws_in hcw w h9)) (xws_c hcd) rfl rfl ⟨rfl, m2, m3, m4⟩ hR) ⟨xPc_blind, hcell, fun U hU hW => ⟨rfl, hPc U hU hW⟩⟩ rfl hlen hl.1 (xstk hdr) hroom hdg ⟨hc1, hc2⟩
  · obtain ⟨rfl, hdr⟩ := hsp.1 (by omega)
    rcases hk with rfl | ⟨rfl, ho⟩
    · simp only [xcalC, Bool.and_eq_true] at hwc
      obtain ⟨⟨w1, w2⟩, w3⟩ := hwc
      have hGS : GoodIn xgw (va_wsS (xown (xmo μ)) x (xmy μ') (xws μ')) := xGood (fun w hw => by
        rcases List.mem_append.mp hw with h9 | h9
        · rcases List.mem_cons.mp h9 with rfl | h9
          · exact xig_mem w1
          · rcases List.mem_cons.mp h9 with rfl | h9
            · exact xig_mem w2
            · rw [List.mem_singleton.mp h9]
              exact xig_mem w3
        · exact xws_in hcw w h9)
      rcases hcd with hcd | ⟨hcd, -, ho⟩
      · exact vx_runS hfix hM (va_cwS (xmn μ') hts hGS (xws_c hcd) rfl rfl ⟨m2, m3, m4⟩ hR) ⟨xPc_blind, fun U hU hW => ⟨rfl, hPc U hU hW⟩⟩ rfl hlen hl.1 (xstk hdr) hroom hdg ⟨hc1, hc2⟩
      · exact x_ofva (vx_runSW hfix (hplain ho) (vx_cwSW (xmn μ') hts hGS (xws_w hcd) rfl rfl ⟨m2, m3, m4⟩ hR) ⟨xPc_blind, fun U hU hW => ⟨rfl, hPc U hU hW⟩⟩ rfl hlen hl.1 (xstk hdr) hroom hdg ⟨hc1, hc2⟩)
    · have hcd : xcod μ' = true := by
        rcases hcd with q | ⟨-, q, -⟩
        · exact q
        · cases q
      simp only [xcalC, Bool.and_eq_true] at hwc
      obtain ⟨⟨w1, w2⟩, w3⟩ := hwc
      exact x_ofva (va_runSN hfix (hplain ho) ⟨va_cnB (xmn μ') hts (xGood (xws_in hcw)) (xws_c hcd) rfl rfl (xnw_of (xinw_mem w1) (hnw _ (xinw_mem w1))) (hts _ (xig_mem w3)) ⟨m2, m3, m4⟩ hR, hts _ (xig_mem w2), trivial⟩ ⟨xPc_blind, fun U hU hW => ⟨rfl, hPc U hU hW⟩⟩ rfl hlen hl.1 (xstk hdr) hroom hdg ⟨hc1, hc2⟩)
  · have hcd : xcod μ' = true := by
      rcases hcd with q | ⟨-, q, -⟩
      · exact q
      · omega
    obtain ⟨b, rfl, hdr⟩ := hsp.2 (by omega)
    have hw0 : xws μ' = Jvm.Cond.code (xmy μ') (xmb μ') (xml μ') none :: xgw := by rw [xws_c hcd, hmr]
    rcases hk with rfl | rfl
    · simp only [xcalC, Bool.and_eq_true] at hwc
      obtain ⟨⟨w1, w2⟩, w3⟩ := hwc
      exact x_ofva (va_runI hfix (hplain ho) (cwI (xmn μ') hts (xGood (xws_in hcw)) hw0 rfl rfl (hts _ (xig_mem w3)) (hts _ (xig_mem w1)) (hts _ (xig_mem w2)) (m6 hin) ⟨m2, m3, m4⟩ hR) ⟨xPc_blind, fun U hU hW => ⟨rfl, hPc U hU hW⟩⟩ rfl hlen hl.1 (xstk hdr) hroom hdg ⟨hc1, hc2⟩)
    · simp only [xcalC, Bool.and_eq_true] at hwc
      obtain ⟨⟨w1, w2⟩, w3⟩ := hwc
      exact x_ofva (va_runIN hfix (hplain ho) ⟨va_cnB (xmn μ') hts (xGood (xws_in hcw)) hw0 rfl rfl (xnw_of (xinw_mem w1) (hnw _ (xinw_mem w1))) (hts _ (xig_mem w3)) ⟨m2, m3, m4⟩ hR, m6 hin, hts _ (xig_mem w2)⟩ ⟨xPc_blind, fun U hU hW => ⟨rfl, hPc U hU hW⟩⟩ rfl hlen hl.1 (xstk hdr) hroom hdg ⟨hc1, hc2⟩)
/-- List.size of an ArrayList -/
theorem x_itf {D : va_G} {tA : Nat → ClassId} {old : Nat → Nat} {n0 μ μ' x cnt pc b : Nat} {sc : Option (List Int32)} {rest : List Value} {h h' : xH} {ks ks' : Nat} {rv : Option Value} {ls : Array Slot} {lv : xL} {r' : Nat × Nat × Nat × Nat}
    (hM : xMet l D tA old n0 sc μ' [.ref b] h ks (none, rv, h', ks')) (hcd : xcod μ' = true) (hfix : CallFix p m c (xmb μ) (xml μ) s args xgw (xown (xmo μ)))
    (hnw : ∀ w ∈ xnw, w.before args s = true) (hK : xK D tA s) (hX : xX sc old n0 s) (hZ : xZ old n0 s) (hn0 : n0 ≤ s.heap.size) (hRf : xmf μ ≤ R.frames) (hRl : xmlo μ ≤ R.locals)
    (hz : H.size = n0 + h.length) (hP : xP D tA (xad old n0) h H) (hS : va_S (fun q => n0 ≤ q) s.heap H locs) (hl : lv_has ls (xml μ) (xm (xad old n0) lv))
    (hf : xfnd (xitfT (xmo μ)) x = some (μ', r')) (hcat : (rest.map fun v => v.category).sum ≤ 8) (hfr : xmf μ' + 1 ≤ xmf μ) (hlo : 8 + (xml μ' + 11) + xmlo μ' ≤ xmlo μ) (hrec : xrecv μ' [.ref b] h = true)
    (hdg : decode (xmb μ) pc = .ok (.invokeinterface x cnt, 5)) (hc1 : cells + (h'.length - h.length) ≤ R.cells) (hc2 : slots + (ks' - ks) ≤ R.slots)
    (kk : ∀ (H1 : Heap) (locs1 : List Loc), H1.size = n0 + h'.length → xP D tA (xad old n0) h' H1 → va_S (fun q => n0 ≤ q) s.heap H1 locs1 → W p l e R s m args below meth c H1 locs1 (cells + (h'.length - h.length)) (slots + (ks' - ks)) Q (F0 m (pc + 5) ls ((rv.toList ++ rest).map (xv (xad old n0))))) :
    W p l e R s m args below meth c H locs cells slots Q (F0 m pc ls (((.ref b : Value) :: rest).map (xv (xad old n0)))) := by
  obtain ⟨m1, m2, m3, m4, m5, m6⟩ := xmet_ok (Or.inl hcd)
  have hts := hfix.2.2.2.2
  have hw := xitf_ok hf
  unfold xitfC at hw
  simp only [Bool.and_eq_true, decide_eq_true_eq] at hw
  obtain ⟨⟨⟨⟨⟨hy, hal⟩, w1⟩, w2⟩, w3⟩, w4⟩ := hw
  have hFw := (hZ.2.2.2.2 hal).2
  have hcell : ∃ (cC : ClassId), ClassAt s "java/util/ArrayList" cC ∧ ∃ cellB : Cell, H[xad old n0 b]? = some cellB ∧ cellB.vm.isStatics = false ∧ s.vm.findClass "java/util/ArrayList" = some cellB.cls := by
    unfold xrecv at hrec
    dsimp only at hrec
    split at hrec
    · rename_i ci fs hg
      rw [Bool.and_eq_true, decide_eq_true_eq] at hrec
      obtain ⟨rfl, hlt⟩ := hrec
      have hlt := Nat.blt_eq.mp hlt
      obtain ⟨⟨C, T, N⟩, hc, cell, q1, q2, q3, -⟩ := xP_obj hP hg (Nat.lt_of_lt_of_le hlt (by decide))
      have hC := xcl_own hc hlt
      have hk := hK.1.1 _ _ hc
      have e1 : C = "java/util/ArrayList" := by rw [hC, m5, hy]
      subst e1
      exact ⟨_, hk.2, cell, q1, by rw [q3]; rfl, by rw [q2]; exact hk.2.1⟩
    · cases hrec
  obtain ⟨cC, hat, hcell⟩ := hcell
  have hrun := va_runF (x := xLs) hat hfix (xMet_plain hM) (va_cwF (x := xLs) 0 hts (xGood (fun w hw => by
        rcases List.mem_append.mp hw with h9 | h9
        · rcases List.mem_cons.mp h9 with rfl | h9
          · exact xig_mem w1
          · rcases List.mem_cons.mp h9 with rfl | h9
            · exact xig_mem w2
            · rcases List.mem_cons.mp h9 with rfl | h9
              · exact xig_mem w3
              · rw [List.mem_singleton.mp h9]
                exact xig_mem w4
        · exact xws_in (Or.inl hcd) w h9)) (xws_c hcd) rfl rfl (by rw [hy]; exact hFw) ⟨by decide, by decide, by decide +kernel⟩ ⟨Nat.le_trans hfr hRf, Nat.le_trans hlo hRl⟩)
    (b := xad old n0 b) (As := []) (rest := rest.map (xv (xad old n0))) (g := F0 m pc ls (((.ref b : Value) :: rest).map (xv (xad old n0)))) (locs := locs) (below := below) (meth := meth) (e := e) (cells := cells) (slots := slots) ⟨xPc_blind, hcell, fun U hU hW => ⟨rfl, xPc_at hnw hK hX hZ hn0 hz hP hS U hU hW⟩⟩ rfl rfl hl.1 rfl (lv_room (by rw [xcat_m]; exact hcat)) hdg ⟨hc1, hc2⟩
  intro T hT X
  obtain ⟨v, st₀, t, T', L, h0, X', hL, e1, e2, ⟨⟨-, hv, hsz, hp⟩, hF⟩, st⟩ := hrun T hT X
  obtain ⟨k1, k2, k3⟩ := vx_keep h0 e1 hS (fun _ _ h => h) (fun _ h => h) hL hF
  obtain ⟨t2, a1, b1⟩ := kk T'.heap (locs ++ L) (by rw [e1]; exact hsz) (by rw [e1]; exact hp) k3 T' rfl X'
  refine ⟨t2, st t2 ?_, b1⟩
  have hv : v = rv.map (xv (xad old n0)) := Outcome.returned.inj hv
  subst hv
  have e9 : (rv.toList ++ rest).map (xv (xad old n0)) = (rv.map (xv (xad old n0))).toList ++ rest.map (xv (xad old n0)) := by cases rv <;> rfl
  rw [e9] at a1
  exact a1
end
end XLB
