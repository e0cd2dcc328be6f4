/-! a method: what its run on lists says, the machine does -/
section XLP
set_option maxRecDepth 100000 in
theorem xcodw_all : (List.range xNM).all (fun μ => !(xcod μ && xcow μ)) = true := by decide +kernel
/-- the statics that a throw reads, the texts it takes -/
abbrev xLs : MethodName := ⟨"java/util/List", "size", "()I"⟩
abbrev xAs : MethodName := ⟨"java/util/ArrayList", "size", "()I"⟩
def xZ (old : Nat → Nat) (n0 : Nat) (U : State) : Prop := vx_Zq Bundle.tN "UNASSIGNED_STACK" Bundle.steD (fun q => n0 ≤ q) U U.heap ∧ vx_Zq Bundle.tN "SUPPRESSED_SENTINEL" Bundle.listD (fun q => n0 ≤ q) U U.heap ∧ (∀ q ∈ xstrT, ∃ sa, vk_R (xown q.1) q.2.1 q.2.2 sa U) ∧ (∀ q ∈ xncT, va_Nc q.1 q.2 U) ∧
  (xal = true → va_Z "java/util/ArrayList" "DEFAULTCAPACITY_EMPTY_ELEMENTDATA" "[Ljava/lang/Object;" (.ref (old 1)) (fun q => n0 ≤ q) U U.heap ∧ va_Fw "java/util/ArrayList" xLs xAs U)
def xPc (D : va_G) (tA : Nat → ClassId) (old : Nat → Nat) (n0 : Nat) (sc : Option (List Int32)) (h : xH) (U : State) : Prop :=
  U.heap.size = n0 + h.length ∧ xP D tA (xad old n0) h U.heap ∧ xK D tA U ∧ (∀ w ∈ xnw, va_Nw w U) ∧ xX sc old n0 U ∧ xZ old n0 U
def xQc (D : va_G) (tA : Nat → ClassId) (old : Nat → Nat) (n0 : Nat) (out : xO) : Array Value → State → Outcome → State → Prop := fun _ st oc t =>
  (out.1 = none ∧ oc = .returned (out.2.1.map (xv (xad old n0))) ∧ t.heap.size = n0 + out.2.2.1.length ∧ xP D tA (xad old n0) out.2.2.1 t.heap) ∧ va_F (fun q => n0 ≤ q) st t
def xXc (D : va_G) (tA : Nat → ClassId) (old : Nat → Nat) (n0 : Nat) (out : xO) : String → State → State → Prop := fun E st t =>
  ((∃ (ci : Nat) (C : String) (T : u_T) (N : Nat), out.1 = some ci ∧ xcl[ci]? = some (C, T, N) ∧ E = C) ∧ t.heap.size = n0 + out.2.2.1.length ∧ xP D tA (xad old n0) out.2.2.1 t.heap) ∧ va_F (fun q => n0 ≤ q) st t
def xws (μ : Nat) : List Jvm.Cond := (if xcow μ = true then .codeWith (xmy μ) (xmb μ) (xml μ) (xmr μ) (xmh μ) else .code (xmy μ) (xmb μ) (xml μ) (xmr μ)) :: xgw
def xMet (l : Launch) (D : va_G) (tA : Nat → ClassId) (old : Nat → Nat) (n0 : Nat) (sc : Option (List Int32)) (μ : Nat) (as : List Value) (h : xH) (ks : Nat) (out : xO) : Prop :=
  vx_Met l (xmy μ) (xws μ) ({ frames := xmf μ, cells := out.2.2.1.length - h.length, slots := out.2.2.2 - ks, locals := xmlo μ } : Room) (va_Pc (as.map (xv (xad old n0))) (xPc D tA old n0 sc h)) (xQc D tA old n0 out) (xXc D tA old n0 out) (out.2.2.1.length - h.length) (out.2.2.2 - ks) (fun q => n0 ≤ q)
theorem xnw_of {w : Jvm.Cond} (hw : w ∈ xnw) {A : Array Value} {U : State} (h : w.before A U = true) : va_Nw w U := by
  have hb := (List.mem_filter.mp hw).2
  cases w with
  | fieldLinkNest => exact va_Nw.of rfl h
  | methodLinkNest => exact va_Nw.of rfl h
  | castable => exact va_Nw.of rfl h
  | declares => exact va_Nw.of rfl h
  | arrayOver t => exact h
  | _ => cases hb
theorem xnw_use {w : Jvm.Cond} (hw : w ∈ xnw) {A : Array Value} {U : State} (h : va_Nw w U) : w.before A U = true := by
  have hb := (List.mem_filter.mp hw).2
  cases w with
  | fieldLinkNest => exact va_Nw.use rfl h
  | methodLinkNest => exact va_Nw.use rfl h
  | castable => exact va_Nw.use rfl h
  | declares => exact va_Nw.use rfl h
  | arrayOver t => exact h
  | _ => cases hb
theorem xGood {L : List Jvm.Cond} (h : ∀ w ∈ L, w ∈ xgw) : GoodIn xgw L := fun w hw => ⟨h w hw, good_of_word (xgood (h w hw))⟩
theorem xcodw {μ : Nat} (h : xcod μ = true) : ¬ xcow μ = true := by
  intro h2
  have h1 := List.all_eq_true.mp xcodw_all μ (List.mem_range.mpr (xcod_lt h))
  rw [h, h2] at h1
  cases h1
theorem xws_c {μ : Nat} (h : xcod μ = true) : xws μ = .code (xmy μ) (xmb μ) (xml μ) (xmr μ) :: xgw := by
  unfold xws
  rw [if_neg (xcodw h)]
theorem xws_w {μ : Nat} (h : xcow μ = true) : xws μ = .codeWith (xmy μ) (xmb μ) (xml μ) (xmr μ) (xmh μ) :: xgw := by
  unfold xws
  rw [if_pos h]
theorem xws_in {μ : Nat} (h : xcod μ = true ∨ xcow μ = true) : ∀ w ∈ xws μ, w ∈ xgw := fun w hw => by
  rcases h with h | h
  · rw [xws_c h] at hw
    exact (List.mem_cons.mp hw).elim (fun e => e ▸ xcod_ok h) id
  · rw [xws_w h] at hw
    exact (List.mem_cons.mp hw).elim (fun e => e ▸ xcow_ok h) id
theorem xK_moved {D : va_G} {tA : Nat → ClassId} {u U : State} (hvm : u.vm.Alike U.vm) (h : xK D tA u) : xK D tA U := by
  refine ⟨va_K.moved hvm h.1, fun t ht => ?_⟩
  obtain ⟨h1, k, comp, h2, h3, h4⟩ := h.2 t ht
  obtain ⟨k', hk', he⟩ := hvm.2.2 _ _ h2
  exact ⟨by rw [hvm.findClass]; exact h1, k', comp, hk', by rw [he]; exact h3, h4⟩
theorem xX_moved {sc : Option (List Int32)} {old : Nat → Nat} {n0 : Nat} {u U : State} (hvm : u.vm.Alike U.vm) (hq : ∀ q : Nat, q < n0 → U.heap[q]? = u.heap[q]?) (h : xX sc old n0 u) : xX sc old n0 U := by
  cases sc with
  | none => trivial
  | some l => exact ⟨va_X.moved hvm (va_X.kept h.1 (hq _ h.2)), h.2⟩
theorem xZ_moved {old : Nat → Nat} {n0 : Nat} {u U : State} (hW : u.WarmedH U.vm) (hq : ∀ q : Nat, q < u.heap.size → ¬ n0 ≤ q → U.heap[q]? = u.heap[q]?) (h : xZ old n0 u) : xZ old n0 U :=
  ⟨vx_Zq.moved hW.alike (h.1.kept hq), vx_Zq.moved hW.alike (h.2.1.kept hq), fun q hm => (h.2.2.1 q hm).imp fun sa hs => vk_R.warm hW hs, fun q hm => va_Nc.moved hW.alike (h.2.2.2.1 q hm), fun ha => ⟨va_Z.moved hW.alike ((h.2.2.2.2 ha).1.kept hq), va_Fw.moved (by decide) hW.alike (h.2.2.2.2 ha).2⟩⟩
theorem xPc_blind {D : va_G} {tA : Nat → ClassId} {old : Nat → Nat} {n0 : Nat} {sc : Option (List Int32)} {h : xH} {av : List Value} : FrameBlind (va_Pc av (xPc D tA old n0 sc h)) := by
  intro a U g mk q
  obtain ⟨q0, q1, q2, q3, q4, q5, q6⟩ := q
  exact ⟨q0, q1, q2, xK_moved (u := U) (U := U.calling g mk a) (Vm.Alike.refl U.vm) q3, fun w hw => xnw_warm hw (s := U) (U := U.calling g mk a) (State.WarmedH.refl U) (q4 w hw), xX_moved (u := U) (U := U.calling g mk a) (Vm.Alike.refl U.vm) (fun _ _ => rfl) q5, xZ_moved (u := U) (U := U.calling g mk a) (State.WarmedH.refl U) (fun _ _ _ => rfl) q6⟩
theorem xcat_m (ad : Nat → Nat) (l : List Value) : ((l.map (xv ad)).map fun v => v.category).sum = (l.map fun v => v.category).sum := by
  rw [List.map_map]
  congr 1
  exact List.map_congr_left fun v _ => xv_cat ad v
theorem xstk {st r : List Value} {n : Nat} {f : Value → Value} (h : st.drop n = r) : st.map f = (((st.take n).reverse).map f).reverse ++ r.map f := by
  rw [← h, List.map_reverse, List.reverse_reverse, ← List.map_append, List.take_append_drop]
section
variable {p : Program} {l : Launch} {e : Env} {R : Room} {s : State} {m : MethodId} {args : Array Value} {below : List Frame} {meth : Method} {c : Code} {H : Heap} {locs : List Loc} {cells slots : Nat} {Q : State → Prop}
/-- the callee's start, out of the caller's -/
theorem xPc_at {D : va_G} {tA : Nat → ClassId} {old : Nat → Nat} {n0 : Nat} {sc : Option (List Int32)} {h : xH} (hnw : ∀ w ∈ xnw, w.before args s = true) (hK : xK D tA s) (hX : xX sc old n0 s) (hZ : xZ old n0 s) (hn0 : n0 ≤ s.heap.size)
    (hz : H.size = n0 + h.length) (hP : xP D tA (xad old n0) h H) (hS : va_S (fun q => n0 ≤ q) s.heap H locs) (U : State) (hU : U.heap = H) (hW : s.WarmedH U.vm) : xPc D tA old n0 sc h U := by
  subst hU
  refine ⟨hz, hP, xK_moved hW.alike hK, fun w hw => xnw_warm hw hW ?_, xX_moved hW.alike (fun q hq => hS.2.1 q (Nat.lt_of_lt_of_le hq hn0) (Nat.not_le.mpr hq)) hX, xZ_moved hW hS.2.1 hZ⟩
  exact xnw_of hw (hnw w hw)
/-- a call that returns -/
theorem x_cret {D : va_G} {tA : Nat → ClassId} {old : Nat → Nat} {n0 mc ms pc : Nat} {ls : Array Slot} {st0 rest : List Value} {a : Array Value} {out : xO} {h' : xH} {ks' : Nat} {r : Option Value}
    (hr : vx_Run p l e R s m args below meth c H locs cells slots mc ms (F0 m pc ls st0) rest (xQc D tA old n0 out a) (xXc D tA old n0 out) (fun q => n0 ≤ q)) (ho : out = (none, r, h', ks')) (hS : va_S (fun q => n0 ≤ q) s.heap H locs)
    (kk : ∀ (H1 : Heap) (locs1 : List Loc), H1.size = n0 + h'.length → xP D tA (xad old n0) h' H1 → va_S (fun q => n0 ≤ q) s.heap H1 locs1 → W p l e R s m args below meth c H1 locs1 (cells + mc) (slots + ms) Q (F0 m (pc + 3) ls ((r.toList ++ []).map (xv (xad old n0)) ++ rest))) : W p l e R s m args below meth c H locs cells slots Q (F0 m pc ls st0) := by
  subst ho
  intro T hT X
  rcases hr T hT X with ⟨v, st₀, t, T', L, h0, X', hL, e1, e2, ⟨⟨-, hv, hsz, hp⟩, hF⟩, st⟩ | ⟨q, st₀, t, T', L, E, ce, h0, X', hL, e1, e2, ⟨⟨⟨ci, C, T9, N, hx1, -⟩, -⟩, -⟩, -⟩
  · obtain ⟨k1, k2, k3⟩ := vx_keep h0 e1 hS (fun _ _ h => h) (fun _ h => h) hL hF
    obtain ⟨t2, a1, b1⟩ := kk T'.heap (locs ++ L) (by rw [e1]; exact hsz) (by rw [e1]; exact hp) k3 T' rfl X'
    refine ⟨t2, st t2 ?_, b1⟩
    have hv : v = r.map (xv (xad old n0)) := Outcome.returned.inj hv
    subst hv
    have e : (r.toList ++ []).map (xv (xad old n0)) ++ rest = (r.map (xv (xad old n0))).toList ++ rest := by cases r <;> rfl
    rw [e] at a1
    exact a1
  · cases hx1
/-- a call that throws: it goes on to the caller -/
theorem x_cthr {D : va_G} {tA : Nat → ClassId} {old : Nat → Nat} {n0 mc ms mc2 ms2 pc : Nat} {ls : Array Slot} {st0 rest : List Value} {a : Array Value} {out : xO} {h' : xH} {ks' ci : Nat} {r : Option Value}
    (hr : vx_Run p l e R s m args below meth c H locs cells slots mc ms (F0 m pc ls st0) rest (xQc D tA old n0 out a) (xXc D tA old n0 out) (fun q => n0 ≤ q)) (ho : out = (some ci, r, h', ks')) (hS : va_S (fun q => n0 ≤ q) s.heap H locs)
    (hnoh : ∀ x ∈ c.exceptionTable.toList, False) (hlocks : meth.locks = false) (hc : cells + mc ≤ mc2) (hs : slots + ms ≤ ms2) :
    W p l e R s m args below meth c H locs cells slots (vx_MQ below (xQc D tA old n0 (some ci, none, h', ks')) (xXc D tA old n0 (some ci, none, h', ks')) args s mc2 ms2 (fun q => n0 ≤ q)) (F0 m pc ls st0) := by
  subst ho
  intro T hT X
  rcases hr T hT X with ⟨v, st₀, t, T', L, h0, X', hL, e1, e2, ⟨⟨hv, -⟩, -⟩, -⟩ | ⟨q, st₀, t, T', L, E, ce, h0, X', hL, e1, e2, ⟨⟨⟨ci2, C, T9, N, hx1, hx2, hx3⟩, hsz, hp⟩, hF⟩, hce, hcv, hcl, st⟩
  · cases hv
  · obtain ⟨k1, k2, k3⟩ := vx_keep h0 e1 hS (fun _ _ h => h) (fun _ h => h) hL hF
    have hw := vx_out (p := p) (l := l) (e := e) (R := R) (s := s) (m := m) (args := args) (below := below) (meth := meth) (c := c) (H := T'.heap) (locs := locs ++ L) (cells := cells + mc) (slots := slots + ms) (pc := pc) (ls := ls) (rest := rest) (Qc := xQc D tA old n0 (some ci, none, h', ks')) (XC := xXc D tA old n0 (some ci, none, h', ks')) (free := fun q => n0 ≤ q) (E := E) (ce := ce) (q := q) (mc := mc2) (ms := ms2)
      (fun x hx => (hnoh x hx).elim) hlocks (by rw [e1]; exact hce) hcv hcl (fun t9 ht9 hal => ⟨⟨⟨ci2, C, T9, N, hx1, hx2, hx3⟩, by rw [ht9, e1]; exact hsz, by rw [ht9, e1]; exact hp⟩, va_S.F k3 ht9⟩) k3.2.2 hc hs
    obtain ⟨t2, a1, b1⟩ := hw T' rfl X'
    exact ⟨t2, st.trans a1, b1⟩
end
/-- a callee that throws nothing -/
theorem xMet_plain {l : Launch} {D : va_G} {tA : Nat → ClassId} {old : Nat → Nat} {n0 : Nat} {sc : Option (List Int32)} {μ : Nat} {as : List Value} {h : xH} {ks : Nat} {r : Option Value} {h' : xH} {ks' : Nat} (hm : xMet l D tA old n0 sc μ as h ks (none, r, h', ks')) :
    Met l (xmy μ) (xws μ) ({ frames := xmf μ, cells := h'.length - h.length, slots := ks' - ks, locals := xmlo μ } : Room) (va_Pc (as.map (xv (xad old n0))) (xPc D tA old n0 sc h)) (xQc D tA old n0 (none, r, h', ks')) (h'.length - h.length) (ks' - ks) (fun q => n0 ≤ q) := by
  intro p e ha hc hk s m args below hf happ hP hK
  obtain ⟨n, o, h1, h2, h3, h4⟩ := hm p e ha hc hk s m args below hf happ hP hK
  rcases h4 with h4 | ⟨q, -, E, ce, L, ⟨⟨⟨ci, C, T, N, hx, -⟩, -⟩, -⟩, -⟩
  · exact ⟨n, o, h1, h2, h3, h4⟩
  · cases hx
end XLP
