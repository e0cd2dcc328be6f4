/-! what the tables say of calls, checked by program; the words that stay when the tables warm -/
section XCF
def xmetC (μ : Nat) : Bool := plainName (xmy μ).cls && decide ((xmy μ).cls ≠ "java/lang/invoke/MethodHandle") && decide ((xmy μ).cls ≠ "java/lang/invoke/VarHandle") && decide ((parseMethodDescriptor (xmy μ).desc).map (fun d => d.parameters.length) = some (xmn μ)) && decide (xown (xmo μ) = (xmy μ).cls) && (!xini μ || decide ((xmy μ).name = "<init>"))
set_option maxRecDepth 100000 in
theorem xmet_all : (List.range xNM).all (fun μ => !(xcod μ || xcow μ) || xmetC μ) = true := by decide +kernel
theorem xmet_ok {μ : Nat} (hcd : xcod μ = true ∨ xcow μ = true) : plainName (xmy μ).cls = true ∧ (xmy μ).cls ≠ "java/lang/invoke/MethodHandle" ∧ (xmy μ).cls ≠ "java/lang/invoke/VarHandle" ∧ (parseMethodDescriptor (xmy μ).desc).map (fun d => d.parameters.length) = some (xmn μ) ∧ xown (xmo μ) = (xmy μ).cls ∧ (xini μ = true → (xmy μ).name = "<init>") := by
  have h1 := List.all_eq_true.mp xmet_all μ (List.mem_range.mpr (hcd.elim xcod_lt xcow_lt))
  have hcd : (xcod μ || xcow μ) = true := by rw [Bool.or_eq_true]; exact hcd
  rw [hcd] at h1
  unfold xmetC at h1
  simp only [Bool.not_true, Bool.false_or, Bool.and_eq_true, decide_eq_true_eq, Bool.or_eq_true, Bool.not_eq_true'] at h1
  obtain ⟨⟨⟨⟨⟨a, b⟩, c⟩, d⟩, e⟩, f⟩ := h1
  refine ⟨a, b, c, d, e, fun hi => ?_⟩
  rcases f with f | f
  · rw [hi] at f; cases f
  · exact f
def xcalC (o : Nat) (q : Nat × Nat × Nat × Nat × Nat × Nat × Nat) : Bool :=
  let y := xmy q.2.2.1
  match q.2.1 with
  | 0 => xig (.methodLink (xown o) q.1 y) q.2.2.2.1 && xig (.instanceMethod y) q.2.2.2.2.1 && xig (.initialized y.cls) q.2.2.2.2.2.1
  | 1 => xig (.methodLink (xown o) q.1 y) q.2.2.2.1 && xig (.instanceMethod y) q.2.2.2.2.1 && xig (.selects y.cls y y) q.2.2.2.2.2.1 && xig (.initialized y.cls) q.2.2.2.2.2.2
  | 2 => xig (.methodLink (xown o) q.1 y) q.2.2.2.1 && xig (.static y) q.2.2.2.2.1 && xig (.initialized y.cls) q.2.2.2.2.2.1
  | 3 => xinw (.methodLinkNest (xown o) q.1 y (xhost o)) q.2.2.2.1 && xig (.static y) q.2.2.2.2.1 && xig (.initialized y.cls) q.2.2.2.2.2.1
  | 4 => xinw (.methodLinkNest (xown o) q.1 y (xhost o)) q.2.2.2.1 && xig (.instanceMethod y) q.2.2.2.2.1 && xig (.initialized y.cls) q.2.2.2.2.2.1
  | 6 => xig (.methodLink (xown o) q.1 objectInit) q.2.2.2.1 && xig (.instanceMethod objectInit) q.2.2.2.2.1 && xig (.code objectInit ⟨#[0xb1]⟩ 1 none) q.2.2.2.2.2.1
  | 7 => xig (.methodLink (xown o) q.1 Lib.Math.max.name) q.2.2.2.1 && xig (.static Lib.Math.max.name) q.2.2.2.2.1 && xig (.initialized "java/lang/Math") q.2.2.2.2.2.1 && xig (.code Lib.Math.max.name Lib.Math.max.code 2 (some .int)) q.2.2.2.2.2.2
  | 8 => xig (.methodLink (xown o) q.1 Lib.Math.min.name) q.2.2.2.1 && xig (.static Lib.Math.min.name) q.2.2.2.2.1 && xig (.initialized "java/lang/Math") q.2.2.2.2.2.1 && xig (.code Lib.Math.min.name Lib.Math.min.code 2 (some .int)) q.2.2.2.2.2.2
  | 9 => xig (.methodLink (xown o) q.1 Lib.Math.abs.name) q.2.2.2.1 && xig (.static Lib.Math.abs.name) q.2.2.2.2.1 && xig (.initialized "java/lang/Math") q.2.2.2.2.2.1 && xig (.code Lib.Math.abs.name Lib.Math.abs.code 1 (some .int)) q.2.2.2.2.2.2
  | 10 => xig (.methodLink (xown o) q.1 arraycopyName) q.2.2.2.1 && xig (.native arraycopyName) q.2.2.2.2.1 && xig (.static arraycopyName) q.2.2.2.2.2.1 && xig (.initialized "java/lang/System") q.2.2.2.2.2.2
  | _ => true
set_option maxRecDepth 100000 in
theorem xcal_all : ∀ o, o < xNO → (xcalT o).all (xcalC o) = true := by decide +kernel
theorem xcal_ok {o x : Nat} {r : Nat × Nat × Nat × Nat × Nat × Nat} (h : xfnd (xcalT o) x = some r) : xcalC o (x, r) = true := by
  have hm := xfnd_mem h
  by_cases ho : o < xNO
  · exact List.all_eq_true.mp (xcal_all o ho) _ hm
  · have : xcalT o = [] := by
      unfold xNO at ho
      unfold xcalT
      split <;> first | omega | rfl
    rw [this] at hm
    cases hm
set_option maxRecDepth 100000 in
theorem xcl_all : (List.range xNX).all (fun ci => match xcl[ci]? with | some (C, _, _) => decide (C = xown ci) | none => false) = true := by decide +kernel
theorem xcl_own {ci : Nat} {C : String} {T : u_T} {N : Nat} (hc : xcl[ci]? = some (C, T, N)) (h : ci < xNX) : C = xown ci := by
  have h1 := List.all_eq_true.mp xcl_all ci (List.mem_range.mpr h)
  rw [hc] at h1
  exact of_decide_eq_true h1
-- the interface's call
def xitfC (o : Nat) (q : Nat × Nat × Nat × Nat × Nat × Nat) : Bool :=
  let y := xmy q.2.1
  decide (y = ⟨"java/util/ArrayList", "size", "()I"⟩) && xal && xig (.methodLink (xown o) q.1 ⟨"java/util/List", "size", "()I"⟩) q.2.2.1 && xig (.selects "java/util/ArrayList" ⟨"java/util/List", "size", "()I"⟩ y) q.2.2.2.1 && xig (.instanceMethod y) q.2.2.2.2.1 && xig (.initialized y.cls) q.2.2.2.2.2
set_option maxRecDepth 100000 in
theorem xitf_all : ∀ o, o < xNO → (xitfT o).all (xitfC o) = true := by decide +kernel
theorem xitf_ok {o x : Nat} {r : Nat × Nat × Nat × Nat × Nat} (h : xfnd (xitfT o) x = some r) : xitfC o (x, r) = true := by
  have hm := xfnd_mem h
  by_cases ho : o < xNO
  · exact List.all_eq_true.mp (xitf_all o ho) _ hm
  · have : xitfT o = [] := by
      unfold xNO at ho
      unfold xitfT
      split <;> first | omega | rfl
    rw [this] at hm
    cases hm
def xgstC (o : Nat) (q : Nat × Nat) : Bool := xal && xig (.fieldLink (xown o) q.1 "java/util/ArrayList" "DEFAULTCAPACITY_EMPTY_ELEMENTDATA" "[Ljava/lang/Object;") q.2
set_option maxRecDepth 100000 in
theorem xgst_all : ∀ o, o < xNO → (xgstT o).all (xgstC o) = true := by decide +kernel
theorem xgst_ok {o x : Nat} {r : Nat} (h : xfnd (xgstT o) x = some r) : xgstC o (x, r) = true := by
  have hm := xfnd_mem h
  by_cases ho : o < xNO
  · exact List.all_eq_true.mp (xgst_all o ho) _ hm
  · have : xgstT o = [] := by
      unfold xNO at ho
      unfold xgstT
      split <;> first | omega | rfl
    rw [this] at hm
    cases hm
-- words that stay
theorem xAO_moved {t : FieldType} {u U : State} (hvm : u.vm.Alike U.vm) (h : va_Nw (.arrayOver (.array t)) u) : va_Nw (.arrayOver (.array t)) U := by
  unfold va_Nw Cond.before Cond.holds at h ⊢
  simp only [Cond.value, beq_iff_eq] at h ⊢
  rw [hvm.findClass]
  cases hc : u.vm.findClass (FieldType.array t).toString with
  | none => rw [hc] at h; simp at h
  | some comp =>
    rw [hc] at h
    simp only [Option.bind_some, Option.bind_eq_some_iff, Option.map_eq_some_iff] at h ⊢
    obtain ⟨c, hi, k, hk, hb⟩ := h
    obtain ⟨k', hk', he⟩ := hvm.2.2 _ _ hk
    refine ⟨c, ?_, k', hk', ?_⟩
    · have e1 := va_idx_bare U.vm comp
      have e2 := va_idx_bare u.vm comp
      have e3 : U.vm.bare = u.vm.bare := by first | exact hvm.bare_eq | exact hvm.bare_eq.symm
      rw [e3] at e1
      exact (e1.symm.trans e2).trans hi
    · rw [he]
      rw [hvm.findClass]
      exact hb
def xnwC (w : Jvm.Cond) : Bool := !xnwB w || (match w with
  | .arrayOver (.object _) => true
  | .arrayOver (.array _) => true
  | .arrayOver _ => false
  | _ => true)
set_option maxRecDepth 100000 in
theorem xnwC_all : lw_tbl.all xnwC = true := by decide +kernel
theorem xAO_only {t : FieldType} (h : Jvm.Cond.arrayOver t ∈ xnw) : (∃ C, t = .object C) ∨ ∃ t', t = .array t' := by
  obtain ⟨h1, h2⟩ := List.mem_filter.mp h
  have h3 := List.all_eq_true.mp xnwC_all _ h1
  cases t with
  | object C => exact Or.inl ⟨C, rfl⟩
  | array t => exact Or.inr ⟨t, rfl⟩
  | _ => cases h3
theorem xnw_warm {w : Jvm.Cond} (hw : w ∈ xnw) {s U : State} (hW : s.WarmedH U.vm) (h : va_Nw w s) : va_Nw w U := by
  have hb := (List.mem_filter.mp hw).2
  cases w with
  | fieldLinkNest => exact va_Nw.warmF hW h
  | methodLinkNest => exact va_Nw.warmM hW h
  | castable => exact va_Nw.warmC hW h
  | declares => exact va_Nw.warmD hW h
  | arrayOver t =>
    cases t with
    | object C => exact va_AO.moved hW.alike h
    | array t => exact xAO_moved hW.alike h
    | _ =>
      rcases xAO_only hw with ⟨_, q⟩ | ⟨_, q⟩ <;> cases q
  | _ => cases hb
end XCF
