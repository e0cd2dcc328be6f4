/-! the law's start: what the Statement gives, in the lists' words -/
section XST
set_option maxRecDepth 100000 in
theorem xins_all : (List.range xcl.length).all (fun ci => match xcl[ci]? with | some (C, _, _) => xinsT.any (fun q => Nat.beq q.1 ci && xig (.instantiable C q.2.1) q.2.2) | none => false) = true := by decide +kernel
theorem xD_ok {args : Array Value} {s : State} (hts : ∀ w ∈ xgw, w.before args s = true) : ∃ D : va_G, va_K D xcl [] s := by
  have h1 : ∀ ci : Nat, ∃ (c : ClassId) (iS : Nat → Nat), ∀ q : vw_C, xcl[ci]? = some q → u_Kn s q.1 q.2.1 q.2.2 c iS := by
    intro ci
    cases hc : xcl[ci]? with
    | none => exact ⟨0, fun _ => 0, fun q hq => by cases hq⟩
    | some q =>
      obtain ⟨C, T, N⟩ := q
      obtain ⟨hin, -⟩ := xcls_ok hc
      have hlt : ci < xcl.length := (List.getElem?_eq_some_iff.mp hc).1
      have h2 := List.all_eq_true.mp xins_all ci (List.mem_range.mpr hlt)
      rw [hc] at h2
      obtain ⟨z, -, hz⟩ := List.any_eq_true.mp h2
      rw [Bool.and_eq_true] at hz
      obtain ⟨c, iS, hk⟩ := u_known (C := C) (T := T) (N := N) hts hin (hts _ (xig_mem hz.2))
      exact ⟨c, iS, fun q hq => by cases hq; exact hk⟩
  refine ⟨(fun ci => (h1 ci).choose, fun ci => (h1 ci).choose_spec.choose), fun ci q hq => (h1 ci).choose_spec.choose_spec q hq, fun k q h => by simp at h⟩
theorem xtA_ok {args : Array Value} {s : State} (hts : ∀ w ∈ xgw, w.before args s = true) (hnw : ∀ w ∈ xnw, w.before args s = true) : ∃ tA : Nat → ClassId, ∀ t, t < 6 → s.vm.findClass ("[" ++ (xtT t).toString) = some (tA t) ∧ ∃ (k : Class) (comp : ClassId), s.vm.classes[tA t]? = some k ∧ k.kind = .array comp (xtT t) ∧ (3 ≤ t → comp = tA (xcomp t)) := by
  have ha : ∀ t, t < 3 → ∃ (c : ClassId) (k : Class) (cc : ClassId), s.vm.findClass ("[" ++ (xtT t).toString) = some c ∧ s.vm.classes[c]? = some k ∧ k.kind = .array cc (xtT t) := fun t ht => Cond.arrayClass_spec (hts _ (xarr_ok ht))
  have hb : ∀ t, 3 ≤ t → t < 6 → ∃ (comp c : ClassId) (k : Class), s.vm.findClass ("[" ++ (xtT (xcomp t)).toString) = some comp ∧ s.vm.classes[c]? = some k ∧ k.kind = .array comp (xtT t) ∧ s.vm.findClass ("[" ++ (xtT t).toString) = some c := fun t h3 h6 => by
    rcases (show t = 3 ∨ t = 4 ∨ t = 5 by omega) with rfl | rfl | rfl
    · exact Cond.arrayOver_specA (hnw _ (xover_ok (t := 3) (by simp)))
    · exact Cond.arrayOver_specA (hnw _ (xover_ok (t := 4) (by simp)))
    · exact Cond.arrayOver_specA (hnw _ (xover_ok (t := 5) (by simp)))
  have hf : ∀ t, ∃ c : ClassId, t < 6 → s.vm.findClass ("[" ++ (xtT t).toString) = some c := fun t => by
    by_cases h3 : t < 3
    · obtain ⟨c, k, cc, h, -⟩ := ha t h3
      exact ⟨c, fun _ => h⟩
    · by_cases h6 : t < 6
      · obtain ⟨comp, c, k, -, -, -, h⟩ := hb t (by omega) h6
        exact ⟨c, fun _ => h⟩
      · exact ⟨0, fun q => absurd q h6⟩
  refine ⟨fun t => (hf t).choose, fun t ht => ⟨(hf t).choose_spec ht, ?_⟩⟩
  by_cases h3 : t < 3
  · obtain ⟨c, k, cc, h, h2, h4⟩ := ha t h3
    have e : c = (hf t).choose := Option.some.inj (h.symm.trans ((hf t).choose_spec ht))
    subst e
    exact ⟨k, cc, h2, h4, fun q => absurd q (by omega)⟩
  · obtain ⟨comp, c, k, g1, g2, g3, g4⟩ := hb t (by omega) ht
    have e : c = (hf t).choose := Option.some.inj (g4.symm.trans ((hf t).choose_spec ht))
    subst e
    refine ⟨k, comp, g2, g3, fun _ => ?_⟩
    have hx : xcomp t < 6 := by unfold xcomp; split <;> omega
    exact Option.some.inj (g1.symm.trans ((hf (xcomp t)).choose_spec hx))
set_option maxRecDepth 100000 in
theorem xstr_all : xstrT.all (fun q => lw_tbl.any (fun w => decide (w = Jvm.Cond.stringRef (xown q.1) q.2.1 q.2.2))) = true := by decide +kernel
set_option maxRecDepth 100000 in
theorem xown_cls : xstrT.all (fun q => decide (Jvm.Cond.initialized (xown q.1) ∈ lw_tbl)) = true := by decide +kernel
set_option maxRecDepth 100000 in
theorem xzw : Jvm.Cond.laysStatic Bundle.tN "UNASSIGNED_STACK" Bundle.steD ∈ lw_tbl ∧ Jvm.Cond.laysStatic Bundle.tN "SUPPRESSED_SENTINEL" Bundle.listD ∈ lw_tbl ∧ Jvm.Cond.initialized Bundle.tN ∈ lw_tbl := by decide +kernel
set_option maxRecDepth 100000 in
theorem xncw_all : xncT.all (fun q => (flatC (Jvm.Cond.and given_1 narrow_1)).any (fun w => decide (w = Jvm.Cond.not (.castable q.1 q.2)))) = true := by decide +kernel
abbrev xALn : String := "java/util/ArrayList"
abbrev xDEn : String := "DEFAULTCAPACITY_EMPTY_ELEMENTDATA"
abbrev xDEd : String := "[Ljava/lang/Object;"
set_option maxRecDepth 100000 in
theorem xalw : xal = true → (Jvm.Cond.laysStatic xALn xDEn xDEd ∈ lw_tbl ∧ Jvm.Cond.initialized xALn ∈ lw_tbl ∧ Jvm.Cond.exactly (.static xALn xDEn xDEd) xDEd ∈ flatC (Jvm.Cond.and given_1 narrow_1) ∧ Jvm.Cond.declares xLs ∈ lw_tbl ∧ Jvm.Cond.interfaceMethod xLs.cls xLs.cls xLs.name xLs.desc ∈ lw_tbl ∧ Jvm.Cond.publicMethod xAs ∈ lw_tbl ∧ Jvm.Cond.unhidden xALn xLs.name xLs.desc ∈ lw_tbl ∧ Jvm.Cond.castable xALn xLs.cls ∈ lw_tbl) := by decide +kernel
theorem xZ_ok {args : Array Value} {s : State} (htl : ∀ w ∈ lw_tbl, w.before args s = true) (hgv : (Jvm.Cond.and given_1 narrow_1).before args s = true) (hcl : ∀ q ∈ xstrT, ∃ c, s.vm.findClass (xown q.1) = some c) : ∃ a1 : Nat, ∀ old : Nat → Nat, old 1 = a1 → xZ old s.heap.size s := by
  have hs := flat_of_before _ hgv
  have hal : ∃ a1 : Nat, xal = true → va_Z "java/util/ArrayList" "DEFAULTCAPACITY_EMPTY_ELEMENTDATA" "[Ljava/lang/Object;" (.ref a1) (fun q => s.heap.size ≤ q) s s.heap ∧ va_Fw "java/util/ArrayList" xLs xAs s := by
    rcases hx : xal with _ | _
    · exact ⟨0, fun q => by cases q⟩
    · obtain ⟨w1, w2, w3, w4, w5, w6, w7, w8⟩ := xalw hx
      obtain ⟨a, c, cell, k, q1, -⟩ := Cond.exactly_spec (hs _ w3)
      exact ⟨a, fun _ => ⟨va_Zof (htl _ w1) (htl _ w2) q1 (fun a ha h => by omega), va_Fw.of (htl _ w4) (htl _ w5) (htl _ w6) (htl _ w7) (htl _ w8)⟩⟩
  obtain ⟨a1, hal⟩ := hal
  refine ⟨a1, fun old ho => ⟨vx_Zqof (htl _ xzw.1) (htl _ xzw.2.2) (hs _ (by decide +kernel)) (fun a ha h => by omega), vx_Zqof (htl _ xzw.2.1) (htl _ xzw.2.2) (hs _ (by decide +kernel)) (fun a ha h => by omega), fun q hq => ?_, fun q hq => ?_, by rw [ho]; exact hal⟩⟩
  · obtain ⟨w, hw, he⟩ := List.any_eq_true.mp (List.all_eq_true.mp xstr_all q hq)
    have := of_decide_eq_true he
    subst this
    have h1 := htl _ hw
    obtain ⟨cur, hcur⟩ := hcl q hq
    obtain ⟨-, -, -, a, -, -, -, -, -, hev⟩ := Cond.stringRef_spec hcur (show (Jvm.Cond.stringRef (xown q.1) q.2.1 q.2.2).holds args s none s [] = true from h1)
    exact ⟨a, vk_R.of h1 hev⟩
  · obtain ⟨w, hw, he⟩ := List.any_eq_true.mp (List.all_eq_true.mp xncw_all q hq)
    have := of_decide_eq_true he
    subst this
    exact va_Nc.of (hs _ hw)
end XST
